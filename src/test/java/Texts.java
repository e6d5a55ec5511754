/** Puts whole texts into the text buffer. */
final class Texts {
    private Texts() {
    }

    static int load(ConnectionFamily f, String text) {
        f.clear();
        for (int i = 0; i < text.length(); i++) {
            f.type(text.charAt(i));
        }
        return f.load();
    }
}
