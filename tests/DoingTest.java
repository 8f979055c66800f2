/** Promises 25 to 27: wool, walks, buys. */
public final class DoingTest {
    private static final Check CHECK = new Check("DoingTest");
    private static final int BAD = TepidPurse.BAD;
    private static final int NONE = TepidPurse.NONE;

    private static void wool() {
        TepidPurse x = CHECK.told("man 4 0;plain 20 0;soap 4 0;");
        int[] due = {0, 0, 0, 0, 1, 3};
        for (int n = 0; n < due.length; n++) {
            CHECK.due("wool(0, " + n + ")", x.wool(0, n), due[n]);
        }
        CHECK.due("wool(0, 60)", x.wool(0, 60), NONE);
        CHECK.due("wool(1, 0), a pebble", x.wool(1, 0), NONE);
        CHECK.due("wool(0, 61)", x.wool(0, 61), BAD);
        CHECK.due("wool(0, -1)", x.wool(0, -1), BAD);
        CHECK.due("wool(2, 0)", x.wool(2, 0), BAD);
        CHECK.due("wool(-1, 0)", x.wool(-1, 0), BAD);
        CHECK.due("his own stays", x.one(0, 0), 4);
        // by 5: 20 18 17 16 15 14 13 12 11 10 9 8 7 6 5
        x.warm(0, 0, 0);
        CHECK.due("wool(0, 14)", x.wool(0, 14), 5);
        CHECK.due("wool(0, 15)", x.wool(0, 15), NONE);
        // slate by 5: 20 16 13 11 9 7 5 4
        x.warm(0, 0, 2);
        CHECK.due("slate: wool(0, 6)", x.wool(0, 6), 5);
        CHECK.due("slate: wool(0, 7)", x.wool(0, 7), NONE);
    }

    private static void walksIs(TepidPurse x, int n, int due) {
        CHECK.due("walks(0, " + n + ") of " + x.stone(0, 1), x.walks(0, n), due);
    }

    private static void walks() {
        // 10 9 8 7 6 5 4, in the oven 20, 18 17 16 .. 5 behind it
        TepidPurse x = CHECK.told("man 5 0;soap 10 0;oven 1 20;");
        walksIs(x, 0, 0);
        walksIs(x, 5, 0);
        walksIs(x, 6, 1);
        // begun behind 4 minutes at the latest: 20 behind 6, 5 behind 20
        walksIs(x, 20, 1);
        walksIs(x, 21, 2);
        CHECK.due("walks(0, -1)", x.walks(0, -1), BAD);
        CHECK.due("walks(0, 61)", x.walks(0, 61), BAD);
        CHECK.due("walks(1, 0)", x.walks(1, 0), BAD);
        CHECK.due("walks(-1, 0)", x.walks(-1, 0), BAD);
        CHECK.due("MINUTE", x.rule(6), 0);
        CHECK.due("WARMTH", x.stone(0, 1), 10);
    }

    private static void walksThatCanNotHelp() {
        TepidPurse x = CHECK.told("man 5 0;soap 5 0;oven 1 20;");
        walksIs(x, 0, 0);
        walksIs(x, 1, NONE);
        x.warm(0, 1, 4);
        walksIs(x, 0, NONE);
        walksIs(x, 10, NONE);
        // the last one may go on beyond
        x.warm(0, 1, 6);
        walksIs(x, 1, 0);
        walksIs(x, 2, 1);
        walksIs(x, 3, 1);
        // 5 behind the oven is 4 on the way back
        x.set(1, 5);
        walksIs(x, 2, 1);
        walksIs(x, 3, NONE);
    }

    private static void walksOfAQuickStone() {
        // by 8: 40 23 13 7 4; in the oven 60, then 35 20 11 6 3; the oven is 2 minutes away
        TepidPurse x = CHECK.told("man 0 3;slate 40 0;slate 4 0;oven 1 60;");
        walksIs(x, 3, 0);
        walksIs(x, 4, 1);
        CHECK.due("a pebble behind it", x.walks(1, 4), NONE);
        // begun behind 1: 23 13 7 60 35 20 behind 6, 11 6 behind 8
        walksIs(x, 8, 1);
        // begun behind 6 again: 20 11 6 60 35 20 behind 11, 11 6 behind 13
        walksIs(x, 9, 2);
        walksIs(x, 13, 2);
        walksIs(x, 14, 3);
        CHECK.due("a pebble behind it", x.walks(1, 60), NONE);
        CHECK.due("a pebble now", x.walks(1, 0), NONE);
        x.set(2, 0);
        // 3 minutes away: 40 23 13 7 60 35 20 11 6 3
        walksIs(x, 8, 1);
        walksIs(x, 9, NONE);
    }

    private static void walksFromTheOven() {
        TepidPurse x = CHECK.told("man 5 0;soap 5 0;oven 0 5;");
        walksIs(x, 1, 1);
        walksIs(x, 60, 60);
        x.set(1, 6);
        x.warm(0, 1, 6);
        walksIs(x, 1, 0);
        walksIs(x, 2, 1);
        walksIs(x, 3, 1);
        walksIs(x, 4, 2);
        walksIs(x, 60, 30);
        x.set(1, 99);
        walksIs(x, 60, 2);
    }

    private static void buys() {
        TepidPurse x = CHECK.told("man 3 1;plain 90 0;plain 0 0;plain 8 0;price 0 9;price 2 3;");
        CHECK.due("buys(0, 0)", x.buys(0, 0), 1);
        CHECK.due("buys(0, 1)", x.buys(0, 1), 76);
        CHECK.due("buys(1, 0), all alike", x.buys(1, 0), 0);
        CHECK.due("buys(1, 1)", x.buys(1, 1), 0);
        for (int t = 0; t < 6; t++) {
            x.ask(t, 9);
        }
        CHECK.due("down: buys(2, 1)", x.buys(2, 1), 0);
        x.warm(2, 1, 9);
        CHECK.due("buys(2, 0)", x.buys(2, 0), 0);
        CHECK.due("buys(2, 1)", x.buys(2, 1), 1);
        // 90 76 64 54 45 38: by 9, 9, 9, 9, 9, 4 they buy 10 8 7 6 5 9; by 3 at last 12
        x.ask(5, 4);
        CHECK.due("buys(0, 0)", x.buys(0, 0), 0);
        CHECK.due("buys(0, 1)", x.buys(0, 1), 10);
        x.ask(5, 3);
        CHECK.due("buys(0, 0)", x.buys(0, 0), 5);
        CHECK.due("buys(0, 1)", x.buys(0, 1), 12);
        CHECK.due("buys(0, 2)", x.buys(0, 2), BAD);
        CHECK.due("buys(0, -1)", x.buys(0, -1), BAD);
        CHECK.due("buys(3, 0)", x.buys(3, 0), BAD);
        CHECK.due("buys(-1, 0)", x.buys(-1, 0), BAD);
        // minutes are told from now on, however late it is
        x.go(1);
        x.warm(0, 1, 90);
        CHECK.due("buys(0, 0) later", x.buys(0, 0), 5);
    }

    public static void main(String[] args) {
        wool();
        walks();
        walksThatCanNotHelp();
        walksOfAQuickStone();
        walksFromTheOven();
        buys();
        CHECK.finish();
    }
}
