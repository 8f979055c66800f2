/** Promises 6 to 16: what there is, and what is changed. */
public final class StateTest {
    private static final Check CHECK = new Check("StateTest");
    private static final int BAD = TepidPurse.BAD;

    private static void rule() {
        TepidPurse x = CHECK.told(Check.VILLAGE);
        int[] due = {3, 4, 3, 2, 70, 3, 0};
        for (int i = 0; i < 7; i++) {
            CHECK.due("rule(" + i + ")", x.rule(i), due[i]);
        }
        x.go(5);
        CHECK.due("rule(6)", x.rule(6), 5);
        CHECK.due("rule(-1)", x.rule(-1), BAD);
        CHECK.due("rule(7)", x.rule(7), BAD);
    }

    private static void one() {
        TepidPurse x = CHECK.told(Check.VILLAGE);
        int[][] due = {{3, 1, 3, 130}, {0, 4, 4, 60}, {5, 2, 8, 8}};
        for (int p = 0; p < 3; p++) {
            for (int what = 0; what < 4; what++) {
                CHECK.due("one(" + p + ", " + what + ")", x.one(p, what), due[p][what]);
            }
            CHECK.due("one(" + p + ", -1)", x.one(p, -1), BAD);
            CHECK.due("one(" + p + ", 4)", x.one(p, 4), BAD);
        }
        CHECK.due("one(3, 0)", x.one(3, 0), BAD);
        CHECK.due("one(-1, 0)", x.one(-1, 0), BAD);
        x.pay(3, 0);
        CHECK.due("one(2, 2)", x.one(2, 2), 0);
        CHECK.due("one(2, 3)", x.one(2, 3), 0);
        CHECK.due("one(0, 2)", x.one(0, 2), 11);
    }

    private static void stone() {
        TepidPurse x = CHECK.told(Check.VILLAGE);
        int[][] due = {{0, 90, 0, 3, 1}, {1, 40, 0, 1, 1}, {2, 60, 1, 8, 1}, {3, 8, 2, 1, 1}};
        for (int s = 0; s < 4; s++) {
            for (int what = 0; what < 5; what++) {
                CHECK.due("stone(" + s + ", " + what + ")", x.stone(s, what), due[s][what]);
            }
            CHECK.due("stone(" + s + ", 5)", x.stone(s, 5), BAD);
            CHECK.due("stone(" + s + ", -1)", x.stone(s, -1), BAD);
        }
        CHECK.due("stone(4, 0)", x.stone(4, 0), BAD);
        CHECK.due("stone(-1, 0)", x.stone(-1, 0), BAD);
        x.warm(0, 1, 4);
        CHECK.due("4 is a pebble", x.stone(0, 4), 0);
        x.warm(0, 1, 5);
        CHECK.due("5 is warm", x.stone(0, 4), 1);
    }

    private static void ratesByKindAndWool() {
        int[] bases = {6, 4, 8, 3};
        TepidPurse x = CHECK.told("man 0 0;plain 1 0;");
        for (int kind = 0; kind < 4; kind++) {
            x.warm(0, 0, kind);
            for (int wool = 0; wool < 6; wool++) {
                x.dress(0, 0, wool);
                CHECK.due("RATE of " + kind + " in " + wool, x.stone(0, 3), Math.max(1, bases[kind] - wool));
            }
        }
    }

    private static void debtAndPrice() {
        TepidPurse x = CHECK.told(Check.VILLAGE);
        int[][] due = {{0, 1, 50}, {1, 2, 20}, {0, 2, 9}};
        for (int d = 0; d < 3; d++) {
            for (int what = 0; what < 3; what++) {
                CHECK.due("debt(" + d + ", " + what + ")", x.debt(d, what), due[d][what]);
            }
            CHECK.due("debt(" + d + ", 3)", x.debt(d, 3), BAD);
            CHECK.due("debt(" + d + ", -1)", x.debt(d, -1), BAD);
        }
        CHECK.due("debt(3, 0)", x.debt(3, 0), BAD);
        CHECK.due("debt(-1, 0)", x.debt(-1, 0), BAD);
        int[] prices = {9, 1, 3, 1, 1, 1};
        for (int t = 0; t < 6; t++) {
            CHECK.due("price(" + t + ")", x.price(t), prices[t]);
        }
        CHECK.due("price(6)", x.price(6), BAD);
        CHECK.due("price(-1)", x.price(-1), BAD);
    }

    private static void dress() {
        TepidPurse x = CHECK.told(Check.VILLAGE);
        CHECK.due("dress(0, 0, 5)", x.dress(0, 0, 5), 3);
        CHECK.due("dress(0, 0, 0)", x.dress(0, 0, 0), 5);
        CHECK.due("dress(1, 1, 9)", x.dress(1, 1, 9), 4);
        CHECK.due("dress(1, 1, 0)", x.dress(1, 1, 0), 9);
        int[][] bad = {{0, 0, 6}, {0, 0, -1}, {0, 1, 10}, {0, 1, -1}, {0, 2, 1}, {0, -1, 1}, {3, 0, 1}, {-1, 0, 1}};
        for (int[] b : bad) {
            CHECK.due("dress" + java.util.Arrays.toString(b), x.dress(b[0], b[1], b[2]), BAD);
        }
        CHECK.due("WOOL of 0", x.one(0, 0), 0);
        CHECK.due("PLACE of 0", x.one(0, 1), 1);
        CHECK.due("WOOL of 1", x.one(1, 0), 0);
        CHECK.due("PLACE of 1", x.one(1, 1), 0);
    }

    private static void warm() {
        TepidPurse x = CHECK.told(Check.VILLAGE);
        CHECK.due("warm(0, 1, 99)", x.warm(0, 1, 99), 90);
        CHECK.due("warm(0, 1, 0)", x.warm(0, 1, 0), 99);
        CHECK.due("warm(1, 0, 3)", x.warm(1, 0, 3), 1);
        CHECK.due("warm(1, 0, 0)", x.warm(1, 0, 0), 3);
        int[][] bad = {{0, 1, 100}, {0, 1, -1}, {0, 0, 4}, {0, 0, -1}, {0, 2, 1}, {0, -1, 1}, {4, 0, 1}, {-1, 1, 1}};
        for (int[] b : bad) {
            CHECK.due("warm" + java.util.Arrays.toString(b), x.warm(b[0], b[1], b[2]), BAD);
        }
        CHECK.due("WARMTH of 0", x.stone(0, 1), 0);
        CHECK.due("KIND of 0", x.stone(0, 0), 0);
        CHECK.due("WARMTH of 1", x.stone(1, 1), 40);
        CHECK.due("KIND of 1", x.stone(1, 0), 0);
    }

    private static void set() {
        TepidPurse x = CHECK.told(Check.VILLAGE);
        CHECK.due("set(0, 10)", x.set(0, 10), 3);
        CHECK.due("set(0, 0)", x.set(0, 0), 10);
        CHECK.due("set(1, 99)", x.set(1, 99), 70);
        CHECK.due("set(1, 5)", x.set(1, 5), 99);
        CHECK.due("set(2, 9)", x.set(2, 9), 2);
        CHECK.due("set(2, 0)", x.set(2, 0), 9);
        int[][] bad = {{0, 11}, {0, -1}, {1, 4}, {1, 100}, {2, 10}, {2, -1}, {3, 5}, {-1, 5}};
        for (int[] b : bad) {
            CHECK.due("set" + java.util.Arrays.toString(b), x.set(b[0], b[1]), BAD);
        }
        CHECK.due("WIND", x.rule(5), 0);
        CHECK.due("HEAT", x.rule(4), 5);
        CHECK.due("PLACE of THE OVEN", x.rule(3), 0);
    }

    private static void askAndOwe() {
        TepidPurse x = CHECK.told(Check.VILLAGE);
        CHECK.due("ask(0, 1)", x.ask(0, 1), 9);
        CHECK.due("ask(0, 2)", x.ask(0, 2), 1);
        CHECK.due("ask(5, 9)", x.ask(5, 9), 1);
        int[][] bad = {{0, 0}, {0, 10}, {0, -1}, {6, 1}, {-1, 1}};
        for (int[] b : bad) {
            CHECK.due("ask" + java.util.Arrays.toString(b), x.ask(b[0], b[1]), BAD);
        }
        CHECK.due("price(0)", x.price(0), 2);
        CHECK.due("price(5)", x.price(5), 9);
        CHECK.due("owe(0, 99)", x.owe(0, 99), 50);
        CHECK.due("owe(0, 0)", x.owe(0, 0), 99);
        CHECK.due("owe(2, 7)", x.owe(2, 7), 9);
        int[][] worse = {{0, 100}, {0, -1}, {3, 1}, {-1, 1}};
        for (int[] b : worse) {
            CHECK.due("owe" + java.util.Arrays.toString(b), x.owe(b[0], b[1]), BAD);
        }
        CHECK.due("debt(0, 2)", x.debt(0, 2), 0);
        CHECK.due("debt(2, 2)", x.debt(2, 2), 7);
    }

    private static void halve() {
        TepidPurse x = CHECK.told("man 0 0;man 2 3;slate 91 1;plain 5 0;plain 4 0;");
        CHECK.due("halve(-1)", x.halve(-1), BAD);
        CHECK.due("halve(3)", x.halve(3), BAD);
        CHECK.due("halve(2), a pebble", x.halve(2), TepidPurse.STATE);
        CHECK.due("halve(0)", x.halve(0), 4);
        CHECK.due("half of 91 less 1", x.stone(0, 1), 44);
        int[] justSo = {2, 44, 1, 6, 1};
        for (int what = 0; what < 5; what++) {
            CHECK.due("stone(3, " + what + ")", x.stone(3, what), justSo[what]);
        }
        CHECK.due("halve(1)", x.halve(1), 5);
        CHECK.due("half of 5 less 1", x.stone(1, 1), 1);
        CHECK.due("the one more", x.stone(4, 1), 1);
        CHECK.due("halve(0) of 5", x.halve(0), TepidPurse.FULL);
        CHECK.due("halve(4), a pebble of 5", x.halve(4), TepidPurse.STATE);
        CHECK.due("halve(5)", x.halve(5), BAD);
        CHECK.due("it stays", x.stone(0, 1), 44);
        CHECK.due("STONES", x.rule(1), 5);
        CHECK.due("MINUTE", x.rule(6), 0);
    }

    public static void main(String[] args) {
        rule();
        one();
        stone();
        ratesByKindAndWool();
        debtAndPrice();
        dress();
        warm();
        set();
        askAndOwe();
        halve();
        CHECK.finish();
    }
}
