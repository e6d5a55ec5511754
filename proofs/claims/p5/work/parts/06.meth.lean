/-! ===== by program (wip/gen/gen.py): the words of each method ===== -/
theorem mT_0_ok : (mT_0.zip mP_0).all okM = true ∧ mT_0.length ≤ mP_0.length := by decide +kernel
theorem mT_1_ok : (mT_1.zip mP_1).all okM = true ∧ mT_1.length ≤ mP_1.length := by decide +kernel
theorem mT_2_ok : (mT_2.zip mP_2).all okM = true ∧ mT_2.length ≤ mP_2.length := by decide +kernel
theorem mT_3_ok : (mT_3.zip mP_3).all okM = true ∧ mT_3.length ≤ mP_3.length := by decide +kernel
theorem mT_4_ok : (mT_4.zip mP_4).all okM = true ∧ mT_4.length ≤ mP_4.length := by decide +kernel
theorem mT_5_ok : (mT_5.zip mP_5).all okM = true ∧ mT_5.length ≤ mP_5.length := by decide +kernel
theorem mT_6_ok : (mT_6.zip mP_6).all okM = true ∧ mT_6.length ≤ mP_6.length := by decide +kernel
theorem mT_7_ok : (mT_7.zip mP_7).all okM = true ∧ mT_7.length ≤ mP_7.length := by decide +kernel
set_option maxRecDepth 100000 in
theorem mC_0 : mP_0.map (fun ps => codeAt (ps.headD 0)) = mT_0.map (fun M => M.2.1) := by rfl
set_option maxRecDepth 100000 in
theorem mC_1 : mP_1.map (fun ps => codeAt (ps.headD 0)) = mT_1.map (fun M => M.2.1) := by rfl
set_option maxRecDepth 100000 in
theorem mC_2 : mP_2.map (fun ps => codeAt (ps.headD 0)) = mT_2.map (fun M => M.2.1) := by rfl
set_option maxRecDepth 100000 in
theorem mC_3 : mP_3.map (fun ps => codeAt (ps.headD 0)) = mT_3.map (fun M => M.2.1) := by rfl
set_option maxRecDepth 100000 in
theorem mC_4 : mP_4.map (fun ps => codeAt (ps.headD 0)) = mT_4.map (fun M => M.2.1) := by rfl
set_option maxRecDepth 100000 in
theorem mC_5 : mP_5.map (fun ps => codeAt (ps.headD 0)) = mT_5.map (fun M => M.2.1) := by rfl
set_option maxRecDepth 100000 in
theorem mC_6 : mP_6.map (fun ps => codeAt (ps.headD 0)) = mT_6.map (fun M => M.2.1) := by rfl
set_option maxRecDepth 100000 in
theorem mC_7 : mP_7.map (fun ps => codeAt (ps.headD 0)) = mT_7.map (fun M => M.2.1) := by rfl
theorem mTr_ok : ∀ M ∈ mTr, ∃ ps, okM (M, ps) = true ∧ codeAt (ps.headD 0) = M.2.1 := by
  show ∀ M ∈ mT_0 ++ (mT_1 ++ (mT_2 ++ (mT_3 ++ (mT_4 ++ (mT_5 ++ (mT_6 ++ (mT_7))))))), ∃ ps, okM (M, ps) = true ∧ codeAt (ps.headD 0) = M.2.1
  exact List.forall_mem_append.mpr ⟨zip_all mT_0_ok.1 mT_0_ok.2 mC_0, List.forall_mem_append.mpr ⟨zip_all mT_1_ok.1 mT_1_ok.2 mC_1, List.forall_mem_append.mpr ⟨zip_all mT_2_ok.1 mT_2_ok.2 mC_2, List.forall_mem_append.mpr ⟨zip_all mT_3_ok.1 mT_3_ok.2 mC_3, List.forall_mem_append.mpr ⟨zip_all mT_4_ok.1 mT_4_ok.2 mC_4, List.forall_mem_append.mpr ⟨zip_all mT_5_ok.1 mT_5_ok.2 mC_5, List.forall_mem_append.mpr ⟨zip_all mT_6_ok.1 mT_6_ok.2 mC_6, zip_all mT_7_ok.1 mT_7_ok.2 mC_7⟩⟩⟩⟩⟩⟩⟩
