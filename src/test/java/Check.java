/** Counts answers that are not the ones that are due, and feeds texts to a drawer. */
final class Check {
    private final String name;
    private int wrong;

    Check(String name) {
        this.name = name;
    }

    void due(String call, long got, long want) {
        if (got != want) {
            wrong++;
            System.out.println(name + ": " + call + " answered " + got + ", due is " + want);
        }
    }

    void due(String call, boolean got, boolean want) {
        due(call, got ? 1 : 0, want ? 1 : 0);
    }

    boolean hasFailed() {
        return wrong > 0;
    }

    void end() {
        System.out.println(name + ": " + (wrong == 0 ? "all answers are as due" : wrong + " answers are not as due"));
        if (wrong > 0) {
            System.exit(1);
        }
    }

    /** Puts a text of up to 2,000 bytes behind the tape: how many bytes it has then. */
    static int feed(HopeDrawer drawer, String text) {
        int length = drawer.count(8);
        for (int at = 0; at < text.length(); at += 20) {
            length = drawer.feed(word(text, at), word(text, at + 4), word(text, at + 8),
                word(text, at + 12), word(text, at + 16));
        }
        int padding = (20 - text.length() % 20) % 20;
        return padding == 0 ? length : drawer.back(padding);
    }

    private static int word(String text, int from) {
        int word = 0;
        for (int at = from; at < from + 4; at++) {
            word = word << 8 | (at < text.length() ? text.charAt(at) & 255 : ' ');
        }
        return word;
    }

    static HopeDrawer drawerWith(String text) {
        HopeDrawer drawer = new HopeDrawer();
        feed(drawer, text);
        int fault = drawer.read();
        if (fault != 0) {
            throw new IllegalStateException("fault " + fault + " at " + drawer.place() + " of: " + text);
        }
        return drawer;
    }
}
