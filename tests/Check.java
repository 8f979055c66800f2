/** Counts the answers that are not as due, and tells of each. */
final class Check {
    /** Three people, a stone of each kind, and no rule as it is at first. */
    static final String VILLAGE = "man 3 1;man 0 4;man 5 2;plain 90 0;flint 40 0;slate 60 1;soap 8 2;"
        + "oven 2 70;wind 3;price 0 9;price 2 3;debt 0 1 50;debt 1 2 20;debt 0 2 9;";

    private final String name;
    private int asked = 0;
    private int wrong = 0;

    Check(String name) {
        this.name = name;
    }

    void due(String call, long got, long want) {
        asked++;
        if (got != want) {
            wrong++;
            System.out.println(name + ": " + call + " answered " + got + ", due is " + want);
        }
    }

    /** A new purse that has been told a text, which must be taken. */
    TepidPurse told(String text) {
        TepidPurse x = new TepidPurse();
        int lines = tell(x, text);
        if (lines < 0) {
            due("the text " + text, lines, 0);
        }
        return x;
    }

    static void feedAll(TepidPurse x, String text) {
        for (int i = 0; i < text.length(); i++) {
            x.feed(text.charAt(i));
        }
    }

    static int tell(TepidPurse x, String text) {
        feedAll(x, text);
        return x.text();
    }

    void finish() {
        System.out.println(name + ": " + asked + " answers, " + wrong + " not as due");
        if (wrong != 0) {
            System.exit(1);
        }
    }
}
