/** Counts the answers that are not as due, and tells of each. */
final class Check {
    private final String name;
    private int asked = 0;
    private int wrong = 0;

    Check(String name) {
        this.name = name;
    }

    void due(String call, long got, long want) {
        asked++;
        if (got != want) {
            wrong++;
            System.out.println(name + ": " + call + " answered " + got + ", due is " + want);
        }
    }

    /** A new purse that has been told a text, which must be taken. */
    TepidPurse told(String text) {
        TepidPurse x = new TepidPurse();
        int lines = tell(x, text);
        if (lines < 0) {
            due("the text " + text, lines, 0);
        }
        return x;
    }

    static void feedAll(TepidPurse x, String text) {
        for (int i = 0; i < text.length(); i++) {
            x.feed(text.charAt(i));
        }
    }

    static int tell(TepidPurse x, String text) {
        feedAll(x, text);
        return x.text();
    }

    void finish() {
        System.out.println(name + ": " + asked + " answers, " + wrong + " not as due");
        if (wrong != 0) {
            System.exit(1);
        }
    }
}
