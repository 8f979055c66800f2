/** Promises 28 to 30: lasts, mean, spend. */
public final class OddsTest {
    private static final Check CHECK = new Check("OddsTest");
    private static final int BAD = TepidPurse.BAD;

    private static void lastsIs(TepidPurse x, int n, long over, long under) {
        CHECK.due("lasts(0, " + n + ", 0)", x.lasts(0, n, 0), over);
        CHECK.due("lasts(0, " + n + ", 1)", x.lasts(0, n, 1), under);
    }

    private static void meanIs(TepidPurse x, int n, long over, long under) {
        CHECK.due("mean(0, " + n + ", 0)", x.mean(0, n, 0), over);
        CHECK.due("mean(0, " + n + ", 1)", x.mean(0, n, 1), under);
    }

    private static void lastsAndMean() {
        TepidPurse x = CHECK.told("man 5 0;soap 6 0;wind 3;");
        lastsIs(x, 0, 1, 1);
        meanIs(x, 0, 6, 1);
        lastsIs(x, 1, 7, 10);
        meanIs(x, 1, 47, 10);
        lastsIs(x, 2, 0, 1);
        meanIs(x, 2, 17, 5);
        x.set(0, 5);
        lastsIs(x, 1, 1, 2);
        meanIs(x, 1, 9, 2);
        x.set(0, 0);
        lastsIs(x, 1, 1, 1);
        meanIs(x, 1, 5, 1);
        x.set(0, 10);
        lastsIs(x, 1, 0, 1);
        meanIs(x, 1, 4, 1);
        meanIs(x, 3, 0, 1);
        x.set(0, 3);
        x.warm(0, 1, 7);
        lastsIs(x, 2, 49, 100);
        x.warm(0, 1, 11);
        lastsIs(x, 6, 117649, 1000000);
        // nothing is below 0: 3 and no fewer
        x.warm(0, 1, 3);
        meanIs(x, 2, 49, 100);
        int[][] bad = {{1, 0, 0}, {-1, 0, 0}, {0, 7, 0}, {0, -1, 0}, {0, 0, 2}, {0, 0, -1}};
        for (int[] b : bad) {
            CHECK.due("lasts" + java.util.Arrays.toString(b), x.lasts(b[0], b[1], b[2]), BAD);
            CHECK.due("mean" + java.util.Arrays.toString(b), x.mean(b[0], b[1], b[2]), BAD);
        }
        CHECK.due("WARMTH", x.stone(0, 1), 3);
        CHECK.due("MINUTE", x.rule(6), 0);
    }

    private static void windyCoolsOneBehindTheOther() {
        TepidPurse x = CHECK.told("man 3 1;plain 90 0;wind 3;");
        meanIs(x, 1, 362, 5);
        meanIs(x, 3, 46413, 1000);
        meanIs(x, 6, 23420687, 1000000);
        lastsIs(x, 6, 1, 1);
    }

    private static void spendIs(TepidPurse x, long over, long under, int atOnce) {
        CHECK.due("spend(0, 0)", x.spend(0, 0), over);
        CHECK.due("spend(0, 1)", x.spend(0, 1), under);
        CHECK.due("spend(0, 2)", x.spend(0, 2), atOnce);
    }

    private static void spend() {
        TepidPurse x = CHECK.told("man 3 1;plain 90 0;wind 3;");
        spendIs(x, 90, 1, 1);
        x.ask(0, 9);
        x.ask(2, 3);
        spendIs(x, 362, 5, 0);
        x.warm(0, 1, 0);
        spendIs(x, 0, 1, 1);
        int[][] bad = {{1, 0}, {-1, 0}, {0, 3}, {0, -1}};
        for (int[] b : bad) {
            CHECK.due("spend" + java.util.Arrays.toString(b), x.spend(b[0], b[1]), BAD);
        }
    }

    private static void spendAsItIsSeen() {
        // 6: calm 5, windy 4; then 5: calm 4, windy 3; 4: calm 3, windy 2
        TepidPurse x = CHECK.told("man 5 0;soap 6 0;wind 5;price 0 9;price 1 5;price 2 2;price 3 9;price 4 9;price 5 9;");
        // behind 1 minute: 5 buys 1, later 4 buys 2 or 3 buys 1: he waits; 4 buys 0, later 3 or 2 buys 1
        spendIs(x, 5, 4, 0);
        x.ask(1, 1);
        spendIs(x, 9, 2, 0);
        x.ask(0, 1);
        spendIs(x, 6, 1, 1);
    }

    private static void noLessIsEnough() {
        // now 3 buys 1, a minute later 2 buys 1 for sure
        TepidPurse x = CHECK.told("man 5 0;soap 3 0;wind 0;price 0 3;price 1 2;");
        spendIs(x, 1, 1, 1);
        x.ask(1, 1);
        spendIs(x, 2, 1, 0);
        x.ask(0, 1);
        spendIs(x, 3, 1, 1);
    }

    private static void theLastMinute() {
        TepidPurse x = CHECK.told("man 5 0;soap 40 0;wind 0;price 0 9;price 1 9;price 2 9;price 3 9;price 4 9;price 5 1;");
        // 40 37 35 33 31 29
        spendIs(x, 29, 1, 0);
        x.set(0, 10);
        // twice in each minute: 37 35, 33 31, 29 27, 25 23, 21 19
        spendIs(x, 19, 1, 0);
    }

    public static void main(String[] args) {
        lastsAndMean();
        windyCoolsOneBehindTheOther();
        spend();
        spendAsItIsSeen();
        noLessIsEnough();
        theLastMinute();
        CHECK.finish();
    }
}
