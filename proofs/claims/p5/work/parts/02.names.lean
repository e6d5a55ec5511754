/-! ===== by program (wip/gen/gen.py): the names and tables of the class, the reference and the law ===== -/
def RC0 : String := "ConnectionFamily"
def TC0 : u_T := fun k => match k with
  | 0 => ("ConnectionFamily", "text", "LConnectionFamily$FamilyText;", true)
  | 1 => ("ConnectionFamily", "history", "LConnectionFamily$History;", true)
  | 2 => ("ConnectionFamily", "family", "LConnectionFamily$Family;", true)
  | _ => ("ConnectionFamily", "trial", "LConnectionFamily$Family;", false)
def tyC0 : Nat → FieldType := fun k => match k with
  | 0 => .object "ConnectionFamily$FamilyText"
  | 1 => .object "ConnectionFamily$History"
  | 2 => .object "ConnectionFamily$Family"
  | _ => .object "ConnectionFamily$Family"
def RC1 : String := "ConnectionFamily$FamilyText"
def TC1 : u_T := fun k => match k with
  | 0 => ("ConnectionFamily$FamilyText", "bytes", "[I", true)
  | 1 => ("ConnectionFamily$FamilyText", "size", "I", false)
  | 2 => ("ConnectionFamily$FamilyText", "weights", "[I", true)
  | 3 => ("ConnectionFamily$FamilyText", "parents", "[I", true)
  | 4 => ("ConnectionFamily$FamilyText", "members", "I", false)
  | 5 => ("ConnectionFamily$FamilyText", "faultKind", "I", false)
  | 6 => ("ConnectionFamily$FamilyText", "faultPlace", "I", false)
  | 7 => ("ConnectionFamily$FamilyText", "owners", "[I", true)
  | 8 => ("ConnectionFamily$FamilyText", "nesting", "I", false)
  | _ => ("ConnectionFamily$FamilyText", "place", "I", false)
def tyC1 : Nat → FieldType := fun k => match k with
  | 0 => .array (.int)
  | 1 => .int
  | 2 => .array (.int)
  | 3 => .array (.int)
  | 4 => .int
  | 5 => .int
  | 6 => .int
  | 7 => .array (.int)
  | 8 => .int
  | _ => .int
def RC2 : String := "ConnectionFamily$History"
def TC2 : u_T := fun k => match k with
  | 0 => ("ConnectionFamily$History", "states", "[LConnectionFamily$Family;", true)
  | _ => ("ConnectionFamily$History", "size", "I", false)
def tyC2 : Nat → FieldType := fun k => match k with
  | 0 => .array (.object "ConnectionFamily$Family")
  | _ => .int
def RC3 : String := "ConnectionFamily$Family"
def TC3 : u_T := fun k => match k with
  | 0 => ("ConnectionFamily$Family", "members", "[LConnectionFamily$Connection;", true)
  | 1 => ("ConnectionFamily$Family", "link", "LConnectionFamily$Link;", true)
  | 2 => ("ConnectionFamily$Family", "budget", "I", false)
  | 3 => ("ConnectionFamily$Family", "tick", "I", false)
  | 4 => ("ConnectionFamily$Family", "late", "I", false)
  | 5 => ("ConnectionFamily$Family", "lastSerial", "I", false)
  | 6 => ("ConnectionFamily$Family", "order", "[I", true)
  | _ => ("ConnectionFamily$Family", "remainders", "[I", true)
def tyC3 : Nat → FieldType := fun k => match k with
  | 0 => .array (.object "ConnectionFamily$Connection")
  | 1 => .object "ConnectionFamily$Link"
  | 2 => .int
  | 3 => .int
  | 4 => .int
  | 5 => .int
  | 6 => .array (.int)
  | _ => .array (.int)
def RC4 : String := "ConnectionFamily$Link"
def TC4 : u_T := fun k => match k with
  | 0 => ("ConnectionFamily$Link", "capacity", "I", false)
  | 1 => ("ConnectionFamily$Link", "rate", "I", false)
  | 2 => ("ConnectionFamily$Link", "delay", "I", false)
  | 3 => ("ConnectionFamily$Link", "queue", "LConnectionFamily$PacketRow;", true)
  | _ => ("ConnectionFamily$Link", "onWay", "LConnectionFamily$PacketRow;", true)
def tyC4 : Nat → FieldType := fun k => match k with
  | 0 => .int
  | 1 => .int
  | 2 => .int
  | 3 => .object "ConnectionFamily$PacketRow"
  | _ => .object "ConnectionFamily$PacketRow"
def RC5 : String := "ConnectionFamily$PacketRow"
def TC5 : u_T := fun k => match k with
  | 0 => ("ConnectionFamily$PacketRow", "senders", "[I", true)
  | 1 => ("ConnectionFamily$PacketRow", "serials", "[I", true)
  | 2 => ("ConnectionFamily$PacketRow", "numbers", "[I", true)
  | 3 => ("ConnectionFamily$PacketRow", "ticks", "[I", true)
  | _ => ("ConnectionFamily$PacketRow", "size", "I", false)
def tyC5 : Nat → FieldType := fun k => match k with
  | 0 => .array (.int)
  | 1 => .array (.int)
  | 2 => .array (.int)
  | 3 => .array (.int)
  | _ => .int
def RC6 : String := "ConnectionFamily$Connection"
def TC6 : u_T := fun k => match k with
  | 0 => ("ConnectionFamily$Connection", "isOpen", "Z", false)
  | 1 => ("ConnectionFamily$Connection", "parent", "I", false)
  | 2 => ("ConnectionFamily$Connection", "weight", "I", false)
  | 3 => ("ConnectionFamily$Connection", "amount", "I", false)
  | 4 => ("ConnectionFamily$Connection", "limit", "I", false)
  | 5 => ("ConnectionFamily$Connection", "credit", "I", false)
  | 6 => ("ConnectionFamily$Connection", "threshold", "I", false)
  | 7 => ("ConnectionFamily$Connection", "backlog", "I", false)
  | 8 => ("ConnectionFamily$Connection", "penalty", "I", false)
  | 9 => ("ConnectionFamily$Connection", "backoff", "I", false)
  | 10 => ("ConnectionFamily$Connection", "mark", "I", false)
  | 11 => ("ConnectionFamily$Connection", "serial", "I", false)
  | 12 => ("ConnectionFamily$Connection", "sent", "I", false)
  | 13 => ("ConnectionFamily$Connection", "acknowledged", "I", false)
  | 14 => ("ConnectionFamily$Connection", "lost", "I", false)
  | 15 => ("ConnectionFamily$Connection", "gapLosses", "I", false)
  | 16 => ("ConnectionFamily$Connection", "timeoutLosses", "I", false)
  | 17 => ("ConnectionFamily$Connection", "dropped", "I", false)
  | 18 => ("ConnectionFamily$Connection", "estimates", "LConnectionFamily$Estimates;", true)
  | _ => ("ConnectionFamily$Connection", "flight", "LConnectionFamily$Flight;", true)
def tyC6 : Nat → FieldType := fun k => match k with
  | 0 => .boolean
  | 1 => .int
  | 2 => .int
  | 3 => .int
  | 4 => .int
  | 5 => .int
  | 6 => .int
  | 7 => .int
  | 8 => .int
  | 9 => .int
  | 10 => .int
  | 11 => .int
  | 12 => .int
  | 13 => .int
  | 14 => .int
  | 15 => .int
  | 16 => .int
  | 17 => .int
  | 18 => .object "ConnectionFamily$Estimates"
  | _ => .object "ConnectionFamily$Flight"
def RC7 : String := "ConnectionFamily$Estimates"
def TC7 : u_T := fun k => match k with
  | 0 => ("ConnectionFamily$Estimates", "isKnown", "Z", false)
  | 1 => ("ConnectionFamily$Estimates", "s", "I", false)
  | 2 => ("ConnectionFamily$Estimates", "v", "J", false)
  | _ => ("ConnectionFamily$Estimates", "samples", "I", false)
def tyC7 : Nat → FieldType := fun k => match k with
  | 0 => .boolean
  | 1 => .int
  | 2 => .long
  | _ => .int
def RC8 : String := "ConnectionFamily$Flight"
def TC8 : u_T := fun k => match k with
  | 0 => ("ConnectionFamily$Flight", "numbers", "[I", true)
  | 1 => ("ConnectionFamily$Flight", "ticks", "[I", true)
  | _ => ("ConnectionFamily$Flight", "size", "I", false)
def tyC8 : Nat → FieldType := fun k => match k with
  | 0 => .array (.int)
  | 1 => .array (.int)
  | _ => .int
def RC9 : String := "ConnectionFamilyModel"
def TC9 : u_T := fun k => match k with
  | 0 => ("ConnectionFamilyModel", "page", "[I", true)
  | 1 => ("ConnectionFamilyModel", "remembered", "I", false)
  | 2 => ("ConnectionFamilyModel", "text", "[I", true)
  | 3 => ("ConnectionFamilyModel", "typed", "I", false)
  | 4 => ("ConnectionFamilyModel", "kind", "I", false)
  | 5 => ("ConnectionFamilyModel", "weights", "[I", true)
  | 6 => ("ConnectionFamilyModel", "parents", "[I", true)
  | 7 => ("ConnectionFamilyModel", "many", "I", false)
  | 8 => ("ConnectionFamilyModel", "above", "[I", true)
  | 9 => ("ConnectionFamilyModel", "amounts", "[I", true)
  | 10 => ("ConnectionFamilyModel", "limits", "[I", true)
  | 11 => ("ConnectionFamilyModel", "line", "[I", true)
  | 12 => ("ConnectionFamilyModel", "heirs", "[I", true)
  | 13 => ("ConnectionFamilyModel", "gets", "[I", true)
  | _ => ("ConnectionFamilyModel", "rests", "[I", true)
def tyC9 : Nat → FieldType := fun k => match k with
  | 0 => .array (.int)
  | 1 => .int
  | 2 => .array (.int)
  | 3 => .int
  | 4 => .int
  | 5 => .array (.int)
  | 6 => .array (.int)
  | 7 => .int
  | 8 => .array (.int)
  | 9 => .array (.int)
  | 10 => .array (.int)
  | 11 => .array (.int)
  | 12 => .array (.int)
  | 13 => .array (.int)
  | _ => .array (.int)
def cls : List vw_C := [(RC0, TC0, 4), (RC1, TC1, 10), (RC2, TC2, 2), (RC3, TC3, 8), (RC4, TC4, 5), (RC5, TC5, 5), (RC6, TC6, 20), (RC7, TC7, 4), (RC8, TC8, 3), (RC9, TC9, 15)]
def tyL : List (Nat → FieldType) := [tyC0, tyC1, tyC2, tyC3, tyC4, tyC5, tyC6, tyC7, tyC8, tyC9]
def dfL : List (List Value) := [[.null, .null, .null, .null], [.null, .int 0, .null, .null, .int 0, .int 0, .int 0, .null, .int 0, .int 0], [.null, .int 0], [.null, .null, .int 0, .int 0, .int 0, .int 0, .null, .null], [.int 0, .int 0, .int 0, .null, .null], [.null, .null, .null, .null, .int 0], [.int 0, .int 0, .int 0, .int 0, .int 0, .int 0, .int 0, .int 0, .int 0, .int 0, .int 0, .int 0, .int 0, .int 0, .int 0, .int 0, .int 0, .int 0, .null, .null], [.int 0, .int 0, .long 0, .int 0], [.null, .null, .int 0], [.null, .int 0, .null, .int 0, .int 0, .null, .null, .int 0, .null, .null, .null, .null, .null, .null, .null]]
def cnm : List String := ["ConnectionFamily", "ConnectionFamily$FamilyText", "ConnectionFamily$History", "ConnectionFamily$Family", "ConnectionFamily$Link", "ConnectionFamily$PacketRow", "ConnectionFamily$Connection", "ConnectionFamily$Estimates", "ConnectionFamily$Flight", "ConnectionFamilyModel", "ConnectionFamilyLaw", "java/lang/Math"]
def clP : List (List Nat) := [[402, 404, 406, 408], [84, 86, 88, 90, 92, 94, 96, 98, 100, 102], [117, 119], [381, 383, 385, 387, 389, 391, 393, 395], [183, 185, 187, 189, 191], [161, 163, 165, 167, 169], [287, 289, 291, 293, 295, 297, 299, 301, 303, 305, 307, 309, 311, 313, 315, 317, 319, 321, 323, 325], [213, 215, 217, 219], [238, 240, 242], [860, 862, 864, 866, 868, 870, 872, 874, 876, 878, 880, 882, 884, 886, 888]]
def cnP : List (Nat × Nat) := [(55, 42), (63, 43), (107, 44), (123, 45), (131, 46), (137, 47), (194, 49), (200, 50), (223, 51), (832, 52)]
abbrev MR : Type := MethodName × ByteArray × Nat × Option FieldType × Nat × Nat × Nat
def lawM : MR := (⟨"ConnectionFamilyLaw", "law", "([I)Z"⟩, code, 4, some .boolean, 10, 1, 1)
def mT_0 : List MR := [(⟨"ConnectionFamily", "<init>", "()V"⟩, prog_1_method_1_code, 1, none, 0, 0, 2),
  (⟨"ConnectionFamily$FamilyText", "<init>", "()V"⟩, prog_5_method_1_code, 1, none, 1, 0, 2),
  (⟨"ConnectionFamily$History", "<init>", "()V"⟩, prog_7_method_1_code, 1, none, 2, 0, 2),
  (⟨"ConnectionFamily$Family", "<init>", "()V"⟩, prog_4_method_1_code, 2, none, 3, 0, 2),
  (⟨"ConnectionFamily$Link", "<init>", "()V"⟩, prog_8_method_1_code, 1, none, 4, 0, 2),
  (⟨"ConnectionFamily$PacketRow", "<init>", "(I)V"⟩, prog_9_method_1_code, 3, none, 5, 1, 2),
  (⟨"java/lang/Math", "max", "(II)I"⟩, prog_12_method_65_code, 2, some .int, 11, 2, 1),
  (⟨"ConnectionFamily$Connection", "<init>", "()V"⟩, prog_2_method_1_code, 1, none, 6, 0, 2),
  (⟨"ConnectionFamily$Estimates", "<init>", "()V"⟩, prog_3_method_1_code, 1, none, 7, 0, 2),
  (⟨"ConnectionFamily$Flight", "<init>", "()V"⟩, prog_6_method_1_code, 1, none, 8, 0, 2),
  (⟨"ConnectionFamily$Family", "restart", "(I)V"⟩, prog_4_method_3_code, 3, none, 3, 1, 0),
  (⟨"ConnectionFamily$Connection", "becomeHead", "(I)V"⟩, prog_2_method_4_code, 2, none, 6, 1, 0),
  (⟨"ConnectionFamily$Connection", "becomeNew", "()V"⟩, prog_2_method_3_code, 1, none, 6, 0, 0),
  (⟨"ConnectionFamily$Estimates", "forget", "()V"⟩, prog_3_method_3_code, 1, none, 7, 0, 0),
  (⟨"ConnectionFamily$Link", "becomeEmpty", "()V"⟩, prog_8_method_4_code, 1, none, 4, 0, 0),
  (⟨"ConnectionFamily$Family", "shareBudget", "()V"⟩, prog_4_method_17_code, 4, none, 3, 0, 0),
  (⟨"ConnectionFamily$Family", "divideAmount", "(I)V"⟩, prog_4_method_18_code, 6, none, 3, 1, 0),
  (⟨"ConnectionFamily$Family", "has", "(I)Z"⟩, prog_4_method_4_code, 2, some .boolean, 3, 1, 0),
  (⟨"ConnectionFamily$Family", "isChild", "(II)Z"⟩, prog_4_method_5_code, 3, some .boolean, 3, 2, 0),
  (⟨"ConnectionFamily$Family", "giveOneMore", "(I)V"⟩, prog_4_method_19_code, 4, none, 3, 1, 0),
  (⟨"ConnectionFamily", "type", "(I)I"⟩, prog_1_method_2_code, 2, some .int, 0, 1, 0),
  (⟨"ConnectionFamily$FamilyText", "append", "(I)Z"⟩, prog_5_method_2_code, 2, some .boolean, 1, 1, 0),
  (⟨"ConnectionFamily", "clear", "()I"⟩, prog_1_method_3_code, 2, some .int, 0, 0, 0),
  (⟨"ConnectionFamily", "load", "()I"⟩, prog_1_method_4_code, 2, some .int, 0, 0, 0)]
def mP_0 : List (List Nat) := [[58, 42, 57], [66, 43, 65], [110, 44, 109], [126, 45, 125], [134, 46, 133], [140, 47, 139], [144, 48, 143], [197, 49, 196], [203, 50, 202], [226, 51, 225], [331, 45, 329, 330], [335, 49, 333, 334], [339, 49, 337, 338], [343, 50, 341, 342], [347, 46, 345, 346], [351, 45, 349, 350], [355, 45, 353, 354], [359, 45, 357, 358], [363, 45, 361, 362], [367, 45, 365, 366], [414, 42, 412, 413], [418, 43, 416, 417], [422, 42, 420, 421], [426, 42, 424, 425]]
def mT_1 : List MR := [(⟨"ConnectionFamily$FamilyText", "read", "()V"⟩, prog_5_method_3_code, 2, none, 1, 0, 0),
  (⟨"ConnectionFamily$FamilyText", "readByte", "(I)I"⟩, prog_5_method_4_code, 2, some .int, 1, 1, 0),
  (⟨"ConnectionFamily$FamilyText", "readWeight", "(I)I"⟩, prog_5_method_5_code, 2, some .int, 1, 1, 0),
  (⟨"ConnectionFamily$FamilyText", "readOpening", "()I"⟩, prog_5_method_6_code, 1, some .int, 1, 0, 0),
  (⟨"ConnectionFamily$FamilyText", "readClosing", "()I"⟩, prog_5_method_7_code, 1, some .int, 1, 0, 0),
  (⟨"ConnectionFamily$History", "record", "(LConnectionFamily$Family;)V"⟩, prog_7_method_2_code, 2, none, 2, 1, 0),
  (⟨"ConnectionFamily$History", "dropOldest", "()V"⟩, prog_7_method_3_code, 3, none, 2, 0, 0),
  (⟨"ConnectionFamily$Family", "copyFrom", "(LConnectionFamily$Family;)V"⟩, prog_4_method_2_code, 3, none, 3, 1, 0),
  (⟨"ConnectionFamily$Connection", "copyFrom", "(LConnectionFamily$Connection;)V"⟩, prog_2_method_2_code, 2, none, 6, 1, 0),
  (⟨"ConnectionFamily$Estimates", "copyFrom", "(LConnectionFamily$Estimates;)V"⟩, prog_3_method_2_code, 2, none, 7, 1, 0),
  (⟨"ConnectionFamily$Flight", "copyFrom", "(LConnectionFamily$Flight;)V"⟩, prog_6_method_2_code, 2, none, 8, 1, 0),
  (⟨"ConnectionFamily$Link", "copyFrom", "(LConnectionFamily$Link;)V"⟩, prog_8_method_3_code, 2, none, 4, 1, 0),
  (⟨"ConnectionFamily$PacketRow", "copyFrom", "(LConnectionFamily$PacketRow;)V"⟩, prog_9_method_2_code, 3, none, 5, 1, 0),
  (⟨"java/lang/Math", "min", "(II)I"⟩, prog_12_method_69_code, 2, some .int, 11, 2, 1),
  (⟨"ConnectionFamily$Family", "addConnection", "(II)I"⟩, prog_4_method_15_code, 4, some .int, 3, 2, 0),
  (⟨"ConnectionFamily$Family", "smallestClosed", "()I"⟩, prog_4_method_6_code, 2, some .int, 3, 0, 0),
  (⟨"ConnectionFamily$Connection", "becomeChild", "(ILConnectionFamily$Connection;II)V"⟩, prog_2_method_5_code, 5, none, 6, 4, 0),
  (⟨"ConnectionFamily$Estimates", "inherit", "(LConnectionFamily$Estimates;)V"⟩, prog_3_method_4_code, 2, none, 7, 1, 0),
  (⟨"java/lang/Math", "min", "(JJ)J"⟩, prog_12_method_70_code, 4, some .long, 11, 2, 1),
  (⟨"ConnectionFamily", "fault", "()I"⟩, prog_1_method_5_code, 1, some .int, 0, 0, 0),
  (⟨"ConnectionFamily", "open", "(II)I"⟩, prog_1_method_6_code, 4, some .int, 0, 2, 0),
  (⟨"ConnectionFamily", "isWeight", "(I)Z"⟩, prog_1_method_30_code, 1, some .boolean, 0, 1, 1),
  (⟨"ConnectionFamily", "close", "(I)I"⟩, prog_1_method_7_code, 3, some .int, 0, 1, 0),
  (⟨"ConnectionFamily$Family", "removeConnection", "(I)I"⟩, prog_4_method_16_code, 4, some .int, 3, 1, 0)]
def mP_1 : List (List Nat) := [[430, 43, 428, 429], [434, 43, 432, 433], [438, 43, 436, 437], [442, 43, 440, 441], [446, 43, 444, 445], [450, 44, 448, 449], [454, 44, 452, 453], [459, 45, 457, 458], [463, 49, 461, 462], [467, 50, 465, 466], [471, 51, 469, 470], [478, 46, 476, 477], [482, 47, 480, 481], [485, 48, 484], [491, 45, 489, 490], [495, 45, 493, 494], [499, 49, 497, 498], [504, 50, 502, 503], [509, 48, 508], [514, 42, 512, 513], [518, 42, 516, 517], [522, 42, 521], [527, 42, 525, 526], [531, 45, 529, 530]]
def mT_2 : List MR := [(⟨"ConnectionFamily$Connection", "takeBack", "(LConnectionFamily$Connection;)V"⟩, prog_2_method_6_code, 2, none, 6, 1, 0),
  (⟨"ConnectionFamily$Connection", "addBacklog", "(I)V"⟩, prog_2_method_7_code, 2, none, 6, 1, 0),
  (⟨"ConnectionFamily$Estimates", "merge", "(LConnectionFamily$Estimates;)V"⟩, prog_3_method_5_code, 3, none, 7, 1, 0),
  (⟨"ConnectionFamily", "give", "(II)I"⟩, prog_1_method_8_code, 3, some .int, 0, 2, 0),
  (⟨"ConnectionFamily", "setWeight", "(II)I"⟩, prog_1_method_9_code, 4, some .int, 0, 2, 0),
  (⟨"ConnectionFamily", "setBudget", "(I)I"⟩, prog_1_method_10_code, 3, some .int, 0, 1, 0),
  (⟨"ConnectionFamily", "isBudget", "(I)Z"⟩, prog_1_method_31_code, 1, some .boolean, 0, 1, 1),
  (⟨"ConnectionFamily$Family", "allFlights", "()I"⟩, prog_4_method_8_code, 3, some .int, 3, 0, 0),
  (⟨"ConnectionFamily$Family", "changeBudget", "(I)V"⟩, prog_4_method_14_code, 2, none, 3, 1, 0),
  (⟨"ConnectionFamily", "setLink", "(II)I"⟩, prog_1_method_11_code, 3, some .int, 0, 2, 0),
  (⟨"ConnectionFamily$Link", "most", "(I)I"⟩, prog_8_method_2_code, 1, some .int, 4, 1, 1),
  (⟨"ConnectionFamily$Link", "change", "(II)I"⟩, prog_8_method_5_code, 4, some .int, 4, 2, 0),
  (⟨"ConnectionFamily", "run", "(I)I"⟩, prog_1_method_12_code, 2, some .int, 0, 1, 0),
  (⟨"ConnectionFamily$Family", "runTicks", "(I)I"⟩, prog_4_method_20_code, 4, some .int, 3, 1, 0),
  (⟨"ConnectionFamily$Family", "takeAcknowledgements", "()I"⟩, prog_4_method_21_code, 5, some .int, 3, 0, 0),
  (⟨"ConnectionFamily$PacketRow", "move", "(II)V"⟩, prog_9_method_4_code, 3, none, 5, 2, 0),
  (⟨"ConnectionFamily$Family", "acknowledge", "(III)Z"⟩, prog_4_method_22_code, 8, some .boolean, 3, 3, 0),
  (⟨"ConnectionFamily$Flight", "placeOf", "(I)I"⟩, prog_6_method_3_code, 3, some .int, 8, 1, 0),
  (⟨"ConnectionFamily$Connection", "loseFirst", "(I)V"⟩, prog_2_method_12_code, 2, none, 6, 1, 0),
  (⟨"ConnectionFamily$Flight", "removeFirst", "(I)V"⟩, prog_6_method_5_code, 3, none, 8, 1, 0),
  (⟨"ConnectionFamily$Connection", "slowByGap", "()V"⟩, prog_2_method_13_code, 1, none, 6, 0, 0),
  (⟨"ConnectionFamily$Family", "punish", "(II)V"⟩, prog_4_method_24_code, 4, none, 3, 2, 0),
  (⟨"ConnectionFamily$Connection", "addPenalty", "(I)V"⟩, prog_2_method_8_code, 2, none, 6, 1, 0),
  (⟨"ConnectionFamily$Family", "isKin", "(II)Z"⟩, prog_4_method_11_code, 4, some .boolean, 3, 2, 0)]
def mP_2 : List (List Nat) := [[535, 49, 533, 534], [540, 49, 538, 539], [544, 50, 542, 543], [551, 42, 549, 550], [556, 42, 554, 555], [560, 42, 558, 559], [563, 42, 562], [567, 45, 565, 566], [571, 45, 569, 570], [575, 42, 573, 574], [578, 46, 577], [582, 46, 580, 581], [586, 42, 584, 585], [590, 45, 588, 589], [594, 45, 592, 593], [598, 47, 596, 597], [602, 45, 600, 601], [606, 51, 604, 605], [610, 49, 608, 609], [614, 51, 612, 613], [619, 49, 617, 618], [623, 45, 621, 622], [627, 49, 625, 626], [631, 45, 629, 630]]
def mT_3 : List MR := [(⟨"ConnectionFamily$Estimates", "addSample", "(I)V"⟩, prog_3_method_6_code, 3, none, 7, 1, 0),
  (⟨"java/lang/Math", "abs", "(I)I"⟩, prog_12_method_59_code, 1, some .int, 11, 1, 1),
  (⟨"ConnectionFamily$Connection", "growCredit", "()V"⟩, prog_2_method_15_code, 2, none, 6, 0, 0),
  (⟨"ConnectionFamily$Family", "findTimeouts", "()V"⟩, prog_4_method_23_code, 3, none, 3, 0, 0),
  (⟨"ConnectionFamily$Connection", "timeout", "()I"⟩, prog_2_method_10_code, 1, some .int, 6, 0, 0),
  (⟨"ConnectionFamily$Estimates", "baseTimeout", "()I"⟩, prog_3_method_7_code, 1, some .int, 7, 0, 0),
  (⟨"java/lang/Math", "max", "(JJ)J"⟩, prog_12_method_66_code, 4, some .long, 11, 2, 1),
  (⟨"ConnectionFamily$Connection", "slowByTimeout", "()V"⟩, prog_2_method_14_code, 1, none, 6, 0, 0),
  (⟨"ConnectionFamily$Family", "sendPackets", "()V"⟩, prog_4_method_25_code, 7, none, 3, 0, 0),
  (⟨"java/lang/Math", "floorMod", "(II)I"⟩, prog_12_method_50_code, 3, some .int, 11, 2, 1),
  (⟨"ConnectionFamily$Connection", "maySend", "()Z"⟩, prog_2_method_11_code, 1, some .boolean, 6, 0, 0),
  (⟨"ConnectionFamily$Connection", "window", "()I"⟩, prog_2_method_9_code, 1, some .int, 6, 0, 0),
  (⟨"ConnectionFamily$Family", "send", "(I)V"⟩, prog_4_method_26_code, 4, none, 3, 1, 0),
  (⟨"ConnectionFamily$Flight", "add", "(II)V"⟩, prog_6_method_4_code, 3, none, 8, 2, 0),
  (⟨"ConnectionFamily$Link", "enqueue", "(III)Z"⟩, prog_8_method_6_code, 4, some .boolean, 4, 3, 0),
  (⟨"ConnectionFamily$PacketRow", "add", "(IIII)V"⟩, prog_9_method_3_code, 5, none, 5, 4, 0),
  (⟨"ConnectionFamily$Link", "serve", "(I)V"⟩, prog_8_method_7_code, 4, none, 4, 1, 0),
  (⟨"ConnectionFamily$PacketRow", "removeFirst", "(I)V"⟩, prog_9_method_5_code, 4, none, 5, 1, 0),
  (⟨"ConnectionFamily$Family", "easePenalties", "()V"⟩, prog_4_method_27_code, 2, none, 3, 0, 0),
  (⟨"ConnectionFamily", "property", "(II)I"⟩, prog_1_method_13_code, 3, some .int, 0, 2, 0),
  (⟨"ConnectionFamily$Connection", "tell", "(I)I"⟩, prog_2_method_16_code, 2, some .int, 6, 1, 0),
  (⟨"ConnectionFamily", "count", "(II)I"⟩, prog_1_method_14_code, 3, some .int, 0, 2, 0),
  (⟨"ConnectionFamily$Connection", "tally", "(I)I"⟩, prog_2_method_17_code, 2, some .int, 6, 1, 0),
  (⟨"ConnectionFamily", "told", "(I)I"⟩, prog_1_method_15_code, 2, some .int, 0, 1, 0)]
def mP_3 : List (List Nat) := [[636, 50, 634, 635], [639, 48, 638], [644, 49, 642, 643], [648, 45, 646, 647], [652, 49, 650, 651], [656, 50, 654, 655], [660, 48, 659], [664, 49, 662, 663], [668, 45, 666, 667], [672, 48, 671], [676, 49, 674, 675], [680, 49, 678, 679], [684, 45, 682, 683], [688, 51, 686, 687], [692, 46, 690, 691], [696, 47, 694, 695], [700, 46, 698, 699], [705, 47, 703, 704], [710, 45, 708, 709], [715, 42, 713, 714], [719, 49, 717, 718], [724, 42, 722, 723], [728, 49, 726, 727], [732, 42, 730, 731]]
def mT_4 : List MR := [(⟨"ConnectionFamily$Family", "allOpen", "()I"⟩, prog_4_method_7_code, 3, some .int, 3, 0, 0),
  (⟨"ConnectionFamily$Family", "allCredits", "()I"⟩, prog_4_method_9_code, 3, some .int, 3, 0, 0),
  (⟨"ConnectionFamily", "child", "(II)I"⟩, prog_1_method_16_code, 5, some .int, 0, 2, 0),
  (⟨"ConnectionFamily", "kin", "(I)I"⟩, prog_1_method_17_code, 2, some .int, 0, 1, 0),
  (⟨"ConnectionFamily$Family", "kinOf", "(I)I"⟩, prog_4_method_10_code, 4, some .int, 3, 1, 0),
  (⟨"ConnectionFamily", "distance", "(II)I"⟩, prog_1_method_18_code, 3, some .int, 0, 2, 0),
  (⟨"ConnectionFamily$Family", "stepsBetween", "(II)I"⟩, prog_4_method_12_code, 6, some .int, 3, 2, 0),
  (⟨"ConnectionFamily$Family", "stepsUp", "(II)I"⟩, prog_4_method_13_code, 5, some .int, 3, 2, 0),
  (⟨"ConnectionFamily", "inFlight", "(III)I"⟩, prog_1_method_19_code, 5, some .int, 0, 3, 0),
  (⟨"ConnectionFamily", "queued", "(I)I"⟩, prog_1_method_20_code, 3, some .int, 0, 1, 0),
  (⟨"ConnectionFamily", "due", "(I)I"⟩, prog_1_method_21_code, 3, some .int, 0, 1, 0),
  (⟨"ConnectionFamily", "fairness", "()I"⟩, prog_1_method_22_code, 11, some .int, 0, 0, 0),
  (⟨"ConnectionFamily", "ifBudget", "(II)I"⟩, prog_1_method_23_code, 4, some .int, 0, 2, 0),
  (⟨"ConnectionFamily", "copyForTrial", "()LConnectionFamily$Family;"⟩, prog_1_method_29_code, 1, some (.object "ConnectionFamily$Family"), 0, 0, 0),
  (⟨"ConnectionFamily", "bestBudget", "(I)I"⟩, prog_1_method_24_code, 10, some .int, 0, 1, 0),
  (⟨"ConnectionFamily", "ifOpened", "(III)I"⟩, prog_1_method_25_code, 7, some .int, 0, 3, 0),
  (⟨"ConnectionFamily", "undo", "()I"⟩, prog_1_method_26_code, 1, some .int, 0, 0, 0),
  (⟨"ConnectionFamily$History", "restore", "(LConnectionFamily$Family;)Z"⟩, prog_7_method_4_code, 2, some .boolean, 2, 1, 0),
  (⟨"ConnectionFamily", "digest", "()J"⟩, prog_1_method_27_code, 4, some .long, 0, 0, 0),
  (⟨"ConnectionFamily", "digestOf", "(IJ)J"⟩, prog_1_method_28_code, 7, some .long, 0, 2, 0),
  (⟨"ConnectionFamilyModel", "<init>", "()V"⟩, prog_11_method_1_code, 1, none, 9, 0, 2),
  (⟨"ConnectionFamilyModel", "begin", "(I)V"⟩, prog_11_method_11_code, 3, none, 9, 1, 0),
  (⟨"ConnectionFamilyModel", "put", "(III)V"⟩, prog_11_method_9_code, 4, none, 9, 3, 0),
  (⟨"ConnectionFamilyModel", "type", "(I)I"⟩, prog_11_method_12_code, 2, some .int, 9, 1, 0)]
def mP_4 : List (List Nat) := [[736, 45, 734, 735], [740, 45, 738, 739], [744, 42, 742, 743], [749, 42, 747, 748], [753, 45, 751, 752], [757, 42, 755, 756], [761, 45, 759, 760], [765, 45, 763, 764], [769, 42, 767, 768], [773, 42, 771, 772], [777, 42, 775, 776], [783, 42, 781, 782], [789, 42, 787, 788], [793, 42, 792, 0], [798, 42, 796, 797], [804, 42, 802, 803], [808, 42, 806, 807], [812, 44, 810, 811], [816, 42, 814, 815], [823, 42, 822, 1], [835, 52, 834], [840, 52, 839, 2], [844, 52, 843, 3], [894, 52, 892, 893]]
def mT_5 : List MR := [(⟨"ConnectionFamilyModel", "in", "(III)Z"⟩, prog_11_method_3_code, 3, some .boolean, 9, 3, 1),
  (⟨"ConnectionFamilyModel", "clear", "()I"⟩, prog_11_method_13_code, 2, some .int, 9, 0, 0),
  (⟨"ConnectionFamilyModel", "load", "()I"⟩, prog_11_method_16_code, 3, some .int, 9, 0, 0),
  (⟨"ConnectionFamilyModel", "reads", "()I"⟩, prog_11_method_15_code, 7, some .int, 9, 0, 0),
  (⟨"ConnectionFamilyModel", "faults", "(II)I"⟩, prog_11_method_14_code, 3, some .int, 9, 2, 0),
  (⟨"ConnectionFamilyModel", "records", "()V"⟩, prog_11_method_7_code, 2, none, 9, 0, 0),
  (⟨"ConnectionFamilyModel", "copies", "(II)V"⟩, prog_11_method_6_code, 4, none, 9, 2, 0),
  (⟨"ConnectionFamilyModel", "opens", "(II)I"⟩, prog_11_method_19_code, 6, some .int, 9, 2, 0),
  (⟨"ConnectionFamilyModel", "firstFree", "()I"⟩, prog_11_method_18_code, 2, some .int, 9, 0, 0),
  (⟨"ConnectionFamilyModel", "of", "(II)I"⟩, prog_11_method_8_code, 3, some .int, 9, 2, 0),
  (⟨"ConnectionFamilyModel", "fault", "()I"⟩, prog_11_method_17_code, 1, some .int, 9, 0, 0),
  (⟨"ConnectionFamilyModel", "open", "(II)I"⟩, prog_11_method_20_code, 3, some .int, 9, 2, 0),
  (⟨"ConnectionFamilyModel", "isOpen", "(I)Z"⟩, prog_11_method_10_code, 2, some .boolean, 9, 1, 0),
  (⟨"ConnectionFamilyModel", "close", "(I)I"⟩, prog_11_method_23_code, 3, some .int, 9, 1, 0),
  (⟨"ConnectionFamilyModel", "flightOf", "(I)I"⟩, prog_11_method_21_code, 4, some .int, 9, 1, 0),
  (⟨"ConnectionFamilyModel", "closes", "(II)V"⟩, prog_11_method_22_code, 6, none, 9, 2, 0),
  (⟨"ConnectionFamilyModel", "least", "(II)I"⟩, prog_11_method_4_code, 2, some .int, 9, 2, 1),
  (⟨"ConnectionFamilyModel", "most", "(II)I"⟩, prog_11_method_5_code, 2, some .int, 9, 2, 1),
  (⟨"ConnectionFamilyModel", "give", "(II)I"⟩, prog_11_method_24_code, 3, some .int, 9, 2, 0),
  (⟨"ConnectionFamilyModel", "setWeight", "(II)I"⟩, prog_11_method_25_code, 4, some .int, 9, 2, 0),
  (⟨"ConnectionFamilyModel", "setBudget", "(I)I"⟩, prog_11_method_26_code, 3, some .int, 9, 1, 0),
  (⟨"ConnectionFamilyModel", "setLink", "(II)I"⟩, prog_11_method_27_code, 4, some .int, 9, 2, 0),
  (⟨"ConnectionFamilyModel", "run", "(I)I"⟩, prog_11_method_50_code, 2, some .int, 9, 1, 0),
  (⟨"ConnectionFamilyModel", "runs", "(I)I"⟩, prog_11_method_49_code, 4, some .int, 9, 1, 0)]
def mP_5 : List (List Nat) := [[897, 52, 896], [901, 52, 899, 900], [905, 52, 903, 904], [909, 52, 908, 4], [913, 52, 912, 5], [917, 52, 916, 6], [921, 52, 920, 7], [925, 52, 924, 8], [929, 52, 928, 9], [933, 52, 932, 10], [937, 52, 935, 936], [941, 52, 939, 940], [945, 52, 944, 11], [949, 52, 947, 948], [953, 52, 952, 12], [957, 52, 956, 13], [960, 52, 959], [963, 52, 962], [967, 52, 965, 966], [971, 52, 969, 970], [975, 52, 973, 974], [979, 52, 977, 978], [983, 52, 981, 982], [987, 52, 986, 14]]
def mT_6 : List MR := [(⟨"ConnectionFamilyModel", "ticks", "()I"⟩, prog_11_method_48_code, 4, some .int, 9, 0, 0),
  (⟨"ConnectionFamilyModel", "acknowledges", "()I"⟩, prog_11_method_43_code, 7, some .int, 9, 0, 0),
  (⟨"ConnectionFamilyModel", "comes", "(III)Z"⟩, prog_11_method_42_code, 8, some .boolean, 9, 3, 0),
  (⟨"ConnectionFamilyModel", "placeOf", "(II)I"⟩, prog_11_method_38_code, 4, some .int, 9, 2, 0),
  (⟨"ConnectionFamilyModel", "firstOf", "(I)I"⟩, prog_11_method_37_code, 3, some .int, 9, 1, 0),
  (⟨"ConnectionFamilyModel", "isFoundLost", "(II)V"⟩, prog_11_method_39_code, 3, none, 9, 2, 0),
  (⟨"ConnectionFamilyModel", "leavesFlight", "(I)V"⟩, prog_11_method_36_code, 3, none, 9, 1, 0),
  (⟨"ConnectionFamilyModel", "counts", "(III)V"⟩, prog_11_method_33_code, 4, none, 9, 3, 0),
  (⟨"ConnectionFamilyModel", "suffers", "(III)V"⟩, prog_11_method_35_code, 6, none, 9, 3, 0),
  (⟨"ConnectionFamilyModel", "punishes", "(II)V"⟩, prog_11_method_34_code, 3, none, 9, 2, 0),
  (⟨"ConnectionFamilyModel", "kinOf", "(I)I"⟩, prog_11_method_32_code, 6, some .int, 9, 1, 0),
  (⟨"ConnectionFamilyModel", "measures", "(II)V"⟩, prog_11_method_40_code, 4, none, 9, 2, 0),
  (⟨"ConnectionFamilyModel", "grows", "(I)V"⟩, prog_11_method_41_code, 4, none, 9, 1, 0),
  (⟨"ConnectionFamilyModel", "isOverdue", "(I)Z"⟩, prog_11_method_45_code, 3, some .boolean, 9, 1, 0),
  (⟨"ConnectionFamilyModel", "timeoutOf", "(I)I"⟩, prog_11_method_31_code, 3, some .int, 9, 1, 0),
  (⟨"ConnectionFamilyModel", "timesOut", "(I)V"⟩, prog_11_method_44_code, 2, none, 9, 1, 0),
  (⟨"ConnectionFamilyModel", "shares", "()V"⟩, prog_11_method_29_code, 4, none, 9, 0, 0),
  (⟨"ConnectionFamilyModel", "divides", "(I)V"⟩, prog_11_method_28_code, 7, none, 9, 1, 0),
  (⟨"ConnectionFamilyModel", "sends", "(I)Z"⟩, prog_11_method_46_code, 5, some .boolean, 9, 1, 0),
  (⟨"ConnectionFamilyModel", "windowOf", "(I)I"⟩, prog_11_method_30_code, 3, some .int, 9, 1, 0),
  (⟨"ConnectionFamilyModel", "serves", "()V"⟩, prog_11_method_47_code, 5, none, 9, 0, 0),
  (⟨"ConnectionFamilyModel", "property", "(II)I"⟩, prog_11_method_52_code, 3, some .int, 9, 2, 0),
  (⟨"ConnectionFamilyModel", "propertyOf", "(II)I"⟩, prog_11_method_51_code, 3, some .int, 9, 2, 0),
  (⟨"ConnectionFamilyModel", "count", "(II)I"⟩, prog_11_method_53_code, 3, some .int, 9, 2, 0)]
def mP_6 : List (List Nat) := [[991, 52, 990, 15], [995, 52, 994, 16], [999, 52, 998, 17], [1003, 52, 1002, 18], [1007, 52, 1006, 19], [1011, 52, 1010, 20], [1015, 52, 1014, 21], [1019, 52, 1018, 22], [1023, 52, 1022, 23], [1027, 52, 1026, 24], [1031, 52, 1030, 25], [1035, 52, 1034, 26], [1039, 52, 1038, 27], [1043, 52, 1042, 28], [1047, 52, 1046, 29], [1051, 52, 1050, 30], [1055, 52, 1054, 31], [1059, 52, 1058, 32], [1063, 52, 1062, 33], [1067, 52, 1066, 34], [1071, 52, 1070, 35], [1075, 52, 1073, 1074], [1079, 52, 1078, 36], [1083, 52, 1081, 1082]]
def mT_7 : List MR := [(⟨"ConnectionFamilyModel", "told", "(I)I"⟩, prog_11_method_55_code, 2, some .int, 9, 1, 0),
  (⟨"ConnectionFamilyModel", "sumOf", "(Z)I"⟩, prog_11_method_54_code, 4, some .int, 9, 1, 0),
  (⟨"ConnectionFamilyModel", "child", "(II)I"⟩, prog_11_method_56_code, 5, some .int, 9, 2, 0),
  (⟨"ConnectionFamilyModel", "kin", "(I)I"⟩, prog_11_method_57_code, 2, some .int, 9, 1, 0),
  (⟨"ConnectionFamilyModel", "distance", "(II)I"⟩, prog_11_method_59_code, 7, some .int, 9, 2, 0),
  (⟨"ConnectionFamilyModel", "depthOf", "(I)I"⟩, prog_11_method_58_code, 4, some .int, 9, 1, 0),
  (⟨"ConnectionFamilyModel", "inFlight", "(III)I"⟩, prog_11_method_60_code, 6, some .int, 9, 3, 0),
  (⟨"ConnectionFamilyModel", "queued", "(I)I"⟩, prog_11_method_61_code, 2, some .int, 9, 1, 0),
  (⟨"ConnectionFamilyModel", "due", "(I)I"⟩, prog_11_method_62_code, 3, some .int, 9, 1, 0),
  (⟨"ConnectionFamilyModel", "fairness", "()I"⟩, prog_11_method_63_code, 10, some .int, 9, 0, 0),
  (⟨"ConnectionFamilyModel", "ifBudget", "(II)I"⟩, prog_11_method_65_code, 3, some .int, 9, 2, 0),
  (⟨"ConnectionFamilyModel", "tries", "(II)I"⟩, prog_11_method_64_code, 4, some .int, 9, 2, 0),
  (⟨"ConnectionFamilyModel", "bestBudget", "(I)I"⟩, prog_11_method_66_code, 6, some .int, 9, 1, 0),
  (⟨"ConnectionFamilyModel", "ifOpened", "(III)I"⟩, prog_11_method_67_code, 6, some .int, 9, 3, 0),
  (⟨"ConnectionFamilyModel", "undo", "()I"⟩, prog_11_method_68_code, 1, some .int, 9, 0, 0),
  (⟨"ConnectionFamilyModel", "digest", "()J"⟩, prog_11_method_70_code, 4, some .long, 9, 0, 0),
  (⟨"ConnectionFamilyModel", "mixedConnection", "(JI)J"⟩, prog_11_method_69_code, 7, some .long, 9, 2, 0)]
def mP_7 : List (List Nat) := [[1087, 52, 1085, 1086], [1091, 52, 1090, 37], [1095, 52, 1093, 1094], [1099, 52, 1097, 1098], [1103, 52, 1101, 1102], [1107, 52, 1106, 38], [1111, 52, 1109, 1110], [1115, 52, 1113, 1114], [1119, 52, 1117, 1118], [1123, 52, 1121, 1122], [1129, 52, 1127, 1128], [1133, 52, 1132, 39], [1137, 52, 1135, 1136], [1141, 52, 1139, 1140], [1145, 52, 1143, 1144], [1149, 52, 1147, 1148], [1156, 52, 1155, 40]]
def mTr : List MR := mT_0 ++ (mT_1 ++ (mT_2 ++ (mT_3 ++ (mT_4 ++ (mT_5 ++ (mT_6 ++ (mT_7)))))))
def mT : List MR := lawM :: mTr
def flT : List (Nat × Nat × Nat × Nat × Nat) := [(1, 9, 1, 0, 68), (1, 28, 1, 1, 69), (0, 34, 1, 1, 70), (1, 15, 1, 2, 71), (0, 51, 1, 2, 72), (1, 18, 1, 3, 73), (0, 62, 1, 3, 74), (1, 31, 1, 4, 75), (0, 59, 1, 4, 76), (1, 21, 1, 5, 77), (0, 41, 1, 5, 78), (1, 44, 1, 6, 79), (0, 44, 1, 6, 80), (1, 25, 1, 7, 81), (1, 34, 1, 8, 82), (1, 37, 1, 9, 83), (2, 11, 2, 0, 114), (2, 17, 2, 1, 115), (0, 171, 2, 1, 116), (5, 13, 5, 0, 145), (4, 50, 5, 0, 146), (0, 188, 5, 0, 147), (3, 154, 5, 0, 148), (5, 19, 5, 1, 149), (4, 54, 5, 1, 150), (3, 157, 5, 1, 151), (5, 22, 5, 2, 152), (4, 57, 5, 2, 153), (3, 160, 5, 2, 154), (5, 25, 5, 3, 155), (3, 147, 5, 3, 156), (5, 28, 5, 4, 157), (4, 37, 5, 4, 158), (0, 159, 5, 4, 159), (3, 144, 5, 4, 160), (4, 9, 4, 0, 172), (0, 143, 4, 0, 173), (4, 15, 4, 1, 174), (0, 146, 4, 1, 175), (4, 18, 4, 2, 176), (0, 149, 4, 2, 177), (4, 26, 4, 3, 178), (0, 155, 4, 3, 179), (4, 30, 4, 4, 180), (0, 162, 4, 4, 181), (3, 140, 4, 4, 182), (7, 9, 7, 0, 205), (6, 129, 7, 0, 206), (7, 15, 7, 1, 207), (6, 132, 7, 1, 208), (7, 19, 7, 2, 209), (6, 135, 7, 2, 210), (7, 23, 7, 3, 211), (6, 139, 7, 3, 212), (8, 9, 8, 0, 228), (0, 182, 8, 0, 229), (3, 175, 8, 0, 230), (8, 15, 8, 1, 231), (0, 185, 8, 1, 232), (3, 174, 8, 1, 233), (8, 18, 8, 2, 234), (6, 88, 8, 2, 235), (0, 91, 8, 2, 236), (3, 76, 8, 2, 237), (6, 25, 6, 0, 245), (3, 59, 6, 0, 246), (0, 199, 6, 0, 247), (6, 29, 6, 1, 248), (3, 69, 6, 1, 249), (6, 33, 6, 2, 250), (0, 104, 6, 2, 251), (3, 116, 6, 2, 252), (6, 36, 6, 3, 253), (3, 110, 6, 3, 254), (6, 39, 6, 4, 255), (3, 119, 6, 4, 256), (0, 203, 6, 4, 257), (6, 42, 6, 5, 258), (3, 81, 6, 5, 259), (6, 45, 6, 6, 260), (6, 48, 6, 7, 261), (0, 98, 6, 7, 262), (3, 236, 6, 7, 263), (6, 51, 6, 8, 264), (3, 248, 6, 8, 265), (6, 54, 6, 9, 266), (3, 203, 6, 9, 267), (6, 57, 6, 10, 268), (3, 176, 6, 10, 269), (6, 60, 6, 11, 270), (3, 167, 6, 11, 271), (6, 63, 6, 12, 272), (3, 233, 6, 12, 273), (6, 66, 6, 13, 274), (0, 206, 6, 13, 275), (3, 191, 6, 13, 276), (6, 69, 6, 14, 277), (6, 72, 6, 15, 278), (6, 75, 6, 16, 279), (6, 78, 6, 17, 280), (3, 245, 6, 17, 281), (6, 12, 6, 18, 282), (3, 194, 6, 18, 283), (6, 21, 6, 19, 284), (0, 85, 6, 19, 285), (3, 72, 6, 19, 286), (3, 11, 3, 0, 368), (0, 82, 3, 0, 369), (3, 20, 3, 1, 370), (0, 124, 3, 1, 371), (3, 24, 3, 2, 372), (0, 113, 3, 2, 373), (3, 50, 3, 3, 374), (0, 140, 3, 3, 375), (3, 53, 3, 4, 376), (0, 168, 3, 4, 377), (3, 56, 3, 5, 378), (3, 28, 3, 6, 379), (3, 32, 3, 7, 380), (0, 12, 0, 0, 398), (0, 19, 0, 1, 399), (0, 26, 0, 2, 400), (0, 257, 0, 3, 401), (9, 7, 9, 0, 845), (9, 51, 9, 1, 846), (9, 13, 9, 2, 847), (9, 70, 9, 3, 848), (9, 16, 9, 4, 849), (9, 20, 9, 5, 850), (9, 23, 9, 6, 851), (9, 73, 9, 7, 852), (9, 26, 9, 8, 853), (9, 29, 9, 9, 854), (9, 32, 9, 10, 855), (9, 35, 9, 11, 856), (9, 38, 9, 12, 857), (9, 41, 9, 13, 858), (9, 44, 9, 14, 859)]
def mlT : List (Nat × Nat × Nat × Nat) := [(10, 9, 1, 56), (0, 25, 4, 124), (4, 23, 6, 138), (5, 7, 7, 142), (3, 36, 11, 328), (3, 63, 12, 332), (6, 91, 13, 336), (6, 94, 14, 340), (3, 66, 15, 344), (3, 40, 16, 348), (3, 113, 17, 352), (3, 88, 18, 356), (3, 104, 19, 360), (3, 122, 20, 364), (10, 13, 21, 411), (0, 30, 22, 415), (10, 18, 23, 419), (10, 23, 24, 423), (0, 38, 25, 427), (1, 40, 26, 431), (1, 47, 27, 435), (1, 50, 28, 439), (1, 54, 29, 443), (0, 47, 30, 447), (2, 21, 31, 451), (2, 24, 4, 455), (2, 25, 32, 456), (3, 43, 33, 460), (6, 81, 34, 464), (6, 85, 35, 468), (3, 47, 36, 475), (4, 33, 37, 479), (5, 32, 38, 483), (0, 55, 11, 487), (0, 65, 39, 488), (3, 96, 40, 492), (3, 100, 41, 496), (6, 97, 7, 500), (6, 103, 42, 501), (7, 30, 43, 507), (0, 69, 16, 510), (10, 27, 44, 511), (10, 31, 45, 515), (0, 72, 18, 519), (0, 75, 46, 520), (0, 78, 40, 523), (10, 36, 47, 524), (0, 94, 48, 528), (3, 107, 49, 532), (6, 106, 38, 536), (6, 109, 50, 537), (6, 113, 51, 541), (7, 36, 34, 545), (7, 40, 7, 546), (7, 44, 38, 547), (10, 40, 52, 548), (0, 101, 50, 552), (10, 44, 53, 553), (10, 48, 54, 557), (0, 107, 55, 561), (0, 110, 56, 564), (0, 116, 57, 568), (10, 52, 58, 572), (0, 119, 59, 576), (0, 128, 60, 579), (10, 56, 61, 583), (0, 131, 62, 587), (3, 125, 63, 591), (3, 150, 64, 595), (3, 163, 65, 599), (3, 170, 66, 603), (3, 179, 67, 607), (6, 123, 68, 611), (8, 28, 38, 615), (3, 182, 69, 616), (3, 185, 70, 620), (3, 215, 71, 624), (3, 84, 72, 628), (3, 188, 68, 632), (3, 198, 73, 633), (7, 46, 74, 637), (3, 206, 75, 641), (3, 128, 76, 645), (3, 209, 77, 649), (6, 116, 78, 653), (7, 54, 79, 658), (3, 212, 80, 661), (3, 131, 81, 665), (3, 218, 56, 669), (3, 221, 82, 670), (3, 226, 83, 673), (6, 120, 84, 677), (3, 230, 85, 681), (3, 239, 86, 685), (3, 242, 87, 689), (4, 40, 88, 693), (3, 134, 89, 697), (4, 44, 38, 701), (4, 60, 90, 702), (5, 41, 64, 706), (3, 137, 91, 707), (3, 251, 7, 711), (10, 60, 92, 712), (0, 134, 93, 716), (6, 126, 77, 720), (10, 64, 94, 721), (0, 137, 95, 725), (10, 68, 96, 729), (0, 152, 97, 733), (0, 165, 98, 737), (10, 72, 99, 741), (0, 172, 19, 745), (10, 76, 100, 746), (0, 176, 101, 750), (10, 80, 102, 754), (0, 179, 103, 758), (3, 92, 104, 762), (10, 84, 105, 766), (10, 89, 106, 770), (10, 93, 107, 774), (0, 191, 77, 778), (0, 194, 7, 779), (10, 97, 108, 780), (10, 101, 109, 786), (0, 213, 110, 790), (0, 260, 32, 794), (10, 105, 111, 795), (10, 109, 112, 801), (10, 113, 113, 805), (0, 220, 114, 809), (10, 117, 115, 813), (0, 228, 96, 819), (0, 231, 116, 820), (0, 244, 92, 824), (0, 247, 94, 825), (0, 250, 100, 826), (0, 253, 105, 827), (0, 235, 106, 828), (0, 238, 44, 829), (0, 241, 108, 830), (10, 12, 117, 833), (9, 47, 118, 837), (9, 66, 119, 841), (10, 17, 120, 891), (9, 58, 121, 895), (10, 22, 122, 898), (10, 26, 123, 902), (9, 79, 124, 906), (9, 76, 125, 910), (9, 83, 126, 914), (9, 54, 127, 918), (9, 86, 128, 922), (9, 89, 129, 926), (9, 62, 130, 930), (10, 30, 131, 934), (10, 35, 132, 938), (9, 92, 133, 942), (10, 39, 134, 946), (9, 102, 135, 950), (9, 106, 136, 954), (9, 96, 137, 958), (9, 99, 138, 961), (10, 43, 139, 964), (10, 47, 140, 968), (10, 51, 141, 972), (10, 55, 142, 976), (10, 59, 143, 980), (9, 172, 144, 984), (9, 169, 145, 988), (9, 151, 146, 992), (9, 142, 147, 996), (9, 124, 148, 1000), (9, 127, 149, 1004), (9, 130, 150, 1008), (9, 118, 151, 1012), (9, 121, 152, 1016), (9, 133, 153, 1020), (9, 112, 154, 1024), (9, 115, 155, 1028), (9, 136, 156, 1032), (9, 139, 157, 1036), (9, 154, 158, 1040), (9, 145, 159, 1044), (9, 157, 160, 1048), (9, 160, 161, 1052), (9, 109, 162, 1056), (9, 163, 163, 1060), (9, 148, 164, 1064), (9, 166, 165, 1068), (10, 63, 166, 1072), (9, 175, 167, 1076), (10, 67, 168, 1080), (10, 71, 169, 1084), (9, 178, 170, 1088), (10, 75, 171, 1092), (10, 79, 172, 1096), (10, 83, 173, 1100), (9, 182, 174, 1104), (10, 88, 175, 1108), (10, 92, 176, 1112), (10, 96, 177, 1116), (10, 100, 178, 1120), (10, 104, 179, 1126), (9, 189, 180, 1130), (10, 108, 181, 1134), (10, 112, 182, 1138), (10, 116, 183, 1142), (10, 121, 184, 1146), (9, 196, 169, 1152), (9, 199, 185, 1153), (9, 203, 178, 1157)]
def nlT : List (Nat × Nat × Nat × Nat) := [(0, 11, 2, 64), (0, 18, 3, 108), (3, 19, 5, 132), (3, 35, 8, 195), (6, 11, 9, 201), (6, 20, 10, 224)]
def clT : List (Nat × Nat × Nat × Nat) := [(10, 7, 0, 54), (0, 9, 1, 62), (0, 16, 2, 106), (2, 9, 3, 112), (0, 23, 3, 122), (3, 9, 6, 128), (3, 17, 4, 130), (4, 21, 5, 136), (6, 9, 7, 199), (6, 18, 8, 222), (10, 10, 9, 831)]
def klT : List (Nat × Nat × Int64 × Nat) := [(7, 26, 1152921504606846976, 505), (7, 28, 2, 506), (7, 50, 4, 640), (7, 52, 400, 657), (0, 209, 60, 784), (0, 211, 1000, 785), (0, 224, 18506, 817), (0, 226, 31, 818), (9, 185, 60, 1124), (9, 187, 1000, 1125), (9, 194, 18506, 1150), (9, 192, 31, 1151)]
def oiT : List (Nat × Nat × Nat) := [(0, 3, 59), (1, 3, 67), (2, 3, 111), (3, 3, 127), (4, 3, 135), (5, 1, 141), (6, 3, 198), (7, 3, 204), (8, 3, 227), (9, 1, 836)]
def acT : List (Nat × Nat × Nat) := [(8, 22, 472), (5, 35, 486)]
def gsT : List (Nat × Nat × Nat) := [(0, 217, 799)]
def aoP : List (Nat × Nat) := [(3, 113), (6, 129)]
def w_lay : Nat := 800
def w_arr : Nat := 105
def w_obj : List Nat := [60, 61]
def w_acp : List Nat := [474, 473, 53]
