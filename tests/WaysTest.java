/** Promises 22 to 24: way, fewest, settle. */
public final class WaysTest {
    private static final Check CHECK = new Check("WaysTest");
    private static final int BAD = TepidPurse.BAD;
    private static final int NONE = TepidPurse.NONE;

    private static void wayIs(TepidPurse x, int s, int p, int warmth, int minutes, int... hands) {
        String of = "way(" + s + ", " + p + ", ";
        CHECK.due(of + "0)", x.way(s, p, 0), warmth);
        CHECK.due(of + "1)", x.way(s, p, 1), minutes);
        for (int i = 0; i < 4; i++) {
            CHECK.due(of + (10 + i) + ")", x.way(s, p, 10 + i), i < hands.length ? hands[i] : NONE);
        }
    }

    private static void way() {
        TepidPurse x = CHECK.told(Check.VILLAGE);
        wayIs(x, 0, 1, 53, 5, 2, 1);
        wayIs(x, 0, 2, 64, 2, 2);
        wayIs(x, 1, 1, 31, 4, 1);
        int[][] bad = {{4, 0, 0}, {-1, 0, 0}, {0, 3, 0}, {0, -1, 0}, {0, 1, 2}, {0, 1, 9}, {0, 1, 14}, {0, 1, -1}, {0, 0, 2}};
        for (int[] b : bad) {
            CHECK.due("way" + java.util.Arrays.toString(b), x.way(b[0], b[1], b[2]), BAD);
        }
        for (int what : new int[] {0, 1, 10, 13}) {
            CHECK.due("way(0, 0, " + what + ")", x.way(0, 0, what), TepidPurse.STATE);
        }
        CHECK.due("MINUTE", x.rule(6), 0);
        CHECK.due("whose it is", x.stone(0, 2), 0);
        CHECK.due("DEBTS", x.count(6), 79);
    }

    private static void waysAsGood() {
        TepidPurse x = CHECK.told("man 0 0;man 5 0;man 5 0;man 0 9;slate 99 0;slate 0 0;");
        wayIs(x, 0, 3, 9, 11, 1, 3);
        wayIs(x, 1, 3, 0, 10, 3);
        x.dress(1, 0, 4);
        wayIs(x, 0, 3, 9, 11, 2, 3);
    }

    private static void aWayThroughTheFirst() {
        TepidPurse x = CHECK.told("man 5 0;man 0 0;man 0 9;slate 99 1;");
        wayIs(x, 0, 2, 9, 11, 0, 2);
    }

    private static void aWayThroughAll() {
        TepidPurse x = CHECK.told("man 0 0;man 2 1;man 5 0;man 0 9;slate 99 0;");
        wayIs(x, 0, 3, 9, 11, 2, 3);
        x = CHECK.told("man 0 0;man 3 1;man 5 3;man 0 9;slate 99 0;");
        wayIs(x, 0, 3, 2, 12, 1, 2, 3);
    }

    private static void fewestIs(TepidPurse x, int d, int... stones) {
        CHECK.due("fewest(" + d + ", 0)", x.fewest(d, 0), stones.length);
        for (int i = 0; i < 5; i++) {
            CHECK.due("fewest(" + d + ", " + (10 + i) + ")", x.fewest(d, 10 + i), i < stones.length ? stones[i] : NONE);
        }
    }

    private static void noneFor(TepidPurse x, int d) {
        CHECK.due("fewest(" + d + ", 0)", x.fewest(d, 0), NONE);
        for (int i = 0; i < 5; i++) {
            CHECK.due("fewest(" + d + ", " + (10 + i) + ")", x.fewest(d, 10 + i), NONE);
        }
    }

    private static void fewest() {
        TepidPurse x = CHECK.told("man 5 0;man 0 0;soap 40 0;soap 30 0;soap 20 0;soap 99 1;debt 0 1 50;");
        fewestIs(x, 0, 0, 1);
        x.owe(0, 63);
        fewestIs(x, 0, 0, 1);
        x.owe(0, 64);
        fewestIs(x, 0, 0, 1, 2);
        x.owe(0, 79);
        fewestIs(x, 0, 0, 1, 2);
        x.owe(0, 81);
        noneFor(x, 0);
        x.owe(0, 28);
        fewestIs(x, 0, 0);
        x.warm(0, 1, 4);
        fewestIs(x, 0, 1);
        x.owe(0, 0);
        fewestIs(x, 0);
        int[][] bad = {{1, 0}, {-1, 0}, {0, 1}, {0, 9}, {0, 15}, {0, -1}};
        for (int[] b : bad) {
            CHECK.due("fewest" + java.util.Arrays.toString(b), x.fewest(b[0], b[1]), BAD);
        }
        CHECK.due("MINUTE", x.rule(6), 0);
        CHECK.due("whose they are", x.one(0, 2), 7);
    }

    private static void theOrderOfStones() {
        TepidPurse x = CHECK.told("man 5 0;man 0 0;soap 40 0;slate 40 0;debt 0 1 67;");
        fewestIs(x, 0, 1, 0);
        x.owe(0, 65);
        fewestIs(x, 0, 0, 1);
        x.owe(0, 68);
        fewestIs(x, 0, 1, 0);
        x.owe(0, 69);
        noneFor(x, 0);
    }

    private static void debtsOfOnePair() {
        TepidPurse x = CHECK.told("man 5 0;man 0 0;soap 40 0;soap 30 0;debt 0 1 30;debt 1 0 5;debt 0 1 10;");
        fewestIs(x, 0, 0);
        fewestIs(x, 2, 0, 1);
        noneFor(x, 1);
        x.owe(0, 0);
        fewestIs(x, 2, 0);
        x.owe(0, 38);
        noneFor(x, 2);
    }

    private static void aPebbleNeverClears() {
        TepidPurse x = CHECK.told("man 5 0;man 0 0;soap 5 0;soap 6 0;debt 0 1 4;");
        fewestIs(x, 0, 1);
        x.warm(1, 1, 5);
        noneFor(x, 0);
    }

    private static void fiveStones() {
        TepidPurse x = CHECK.told("man 5 0;man 0 0;soap 20 0;soap 20 0;soap 20 0;soap 20 0;soap 20 0;debt 0 1 80;");
        fewestIs(x, 0, 0, 1, 2, 3, 4);
        x.owe(0, 81);
        noneFor(x, 0);
        x.owe(0, 18);
        fewestIs(x, 0, 0);
    }

    private static void settleIs(TepidPurse x, int most, int... order) {
        CHECK.due("settle(0)", x.settle(0), most);
        for (int i = 0; i < order.length; i++) {
            CHECK.due("settle(" + (10 + i) + ")", x.settle(10 + i), order[i]);
        }
        CHECK.due("settle(" + (10 + order.length) + ")", x.settle(10 + order.length), BAD);
    }

    private static void settle() {
        TepidPurse x = CHECK.told("man 5 0;man 5 0;man 5 0;soap 40 0;debt 1 2 20;debt 0 1 30;");
        settleIs(x, 2, 1, 0);
        for (int what : new int[] {-1, 1, 2, 9, 13, 14}) {
            CHECK.due("settle(" + what + ")", x.settle(what), BAD);
        }
        CHECK.due("MINUTE", x.rule(6), 0);
        CHECK.due("DEBTS", x.count(6), 50);
        x.owe(1, 38);
        settleIs(x, 0, 0, 1);
        x.owe(1, 0);
        settleIs(x, 0, 0, 1);
        x.owe(1, 30);
        x.owe(0, 0);
        settleIs(x, 1, 0, 1);
    }

    private static void settleWithFewStones() {
        TepidPurse x = CHECK.told("man 5 0;man 5 0;man 5 0;soap 40 0;soap 20 0;debt 0 1 50;debt 0 1 1;debt 0 2 15;debt 2 0 9;");
        settleIs(x, 2, 1, 2, 0, 3);
        x.owe(0, 60);
        settleIs(x, 2, 0, 1, 2, 3);
        // debt 0 is passed over in its turn, but is 0 in the end by the stones that clear debt 1
        x.owe(0, 30);
        x.owe(2, 18);
        settleIs(x, 4, 2, 0, 3, 1);
        TepidPurse nobody = new TepidPurse();
        CHECK.due("nobody: settle(0)", nobody.settle(0), 0);
        CHECK.due("nobody: settle(10)", nobody.settle(10), BAD);
    }

    public static void main(String[] args) {
        way();
        waysAsGood();
        aWayThroughTheFirst();
        aWayThroughAll();
        fewest();
        theOrderOfStones();
        debtsOfOnePair();
        aPebbleNeverClears();
        fiveStones();
        settle();
        settleWithFewStones();
        CHECK.finish();
    }
}
