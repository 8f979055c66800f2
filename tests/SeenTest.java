/** Promises 31 to 34: see, forget, fits, drift. */
public final class SeenTest {
    private static final Check CHECK = new Check("SeenTest");
    private static final int BAD = TepidPurse.BAD;
    private static final int NONE = TepidPurse.NONE;

    private static void seeAndForget() {
        TepidPurse x = new TepidPurse();
        int[][] bad = {{-1, 0}, {21, 0}, {0, -1}, {0, 100}};
        for (int[] b : bad) {
            CHECK.due("see" + java.util.Arrays.toString(b), x.see(b[0], b[1]), BAD);
        }
        CHECK.due("count(0)", x.count(0), 0);
        CHECK.due("forget(0)", x.forget(0), 0);
        CHECK.due("forget(1)", x.forget(1), BAD);
        CHECK.due("see(0, 0)", x.see(0, 0), 1);
        CHECK.due("see(20, 99)", x.see(20, 99), 2);
        for (int i = 3; i <= 6; i++) {
            CHECK.due("see, the " + i + "th", x.see(1, 1), i);
        }
        CHECK.due("see, the 7th", x.see(1, 1), TepidPurse.FULL);
        CHECK.due("see(21, 1) when full", x.see(21, 1), BAD);
        CHECK.due("forget(7)", x.forget(7), BAD);
        CHECK.due("forget(-1)", x.forget(-1), BAD);
        CHECK.due("count(0)", x.count(0), 6);
        CHECK.due("forget(6)", x.forget(6), 6);
        CHECK.due("forget(2)", x.forget(2), 6);
        CHECK.due("forget(3)", x.forget(3), BAD);
        CHECK.due("count(0)", x.count(0), 2);
        CHECK.due("forget(0)", x.forget(0), 2);
        CHECK.due("count(0)", x.count(0), 0);
    }

    private static void fitsAre(String when, TepidPurse x, int... due) {
        for (int what = 0; what < 4; what++) {
            CHECK.due(when + ": fits(" + what + ")", x.fits(what), due[what]);
        }
    }

    private static void fits() {
        TepidPurse x = CHECK.told(Check.VILLAGE);
        fitsAre("nothing seen", x, 12, 0, 15, 7);
        CHECK.due("fits(-1)", x.fits(-1), BAD);
        CHECK.due("fits(4)", x.fits(4), BAD);
        x.see(1, 76);
        fitsAre("76 behind 1", x, 1, 0, 1, 1);
        x.see(2, 64);
        x.see(0, 90);
        fitsAre("all of one", x, 1, 0, 1, 1);
        x.see(1, 85);
        fitsAre("no stone", x, 0, NONE, 0, 0);
        x.forget(0);
        x.see(1, 85);
        fitsAre("85 behind 1", x, 1, 2, 1, 4);
        x.forget(0);
        // slate 60 with 0, 1, 2: rates 5, 8, 3: 44, 35, 50
        x.see(1, 44);
        fitsAre("not who has it", x, 1, 20, 4, 1);
        x.forget(0);
        // flint 40: 4 - 3 and 4 - 5 are both 1
        x.see(1, 37);
        fitsAre("as slow with two", x, 2, 10, 2, 5);
        x.forget(0);
        x.see(20, 0);
        x.see(0, 8);
        fitsAre("soap cold in all", x, 3, 30, 8, 7);
        x.go(1);
        fitsAre("from now on", x, 0, NONE, 0, 0);
        x.forget(0);
        x.see(0, 7);
        x.see(0, 9);
        fitsAre("both can not be", x, 0, NONE, 0, 0);
        x.forget(1);
        fitsAre("the first alone", x, 3, 30, 8, 7);
        TepidPurse nobody = new TepidPurse();
        fitsAre("nobody", nobody, 0, NONE, 0, 0);
    }

    private static void driftIs(TepidPurse x, int seed, int n, int warmth, int minutes) {
        CHECK.due("drift(" + seed + ", " + n + ", 0)", x.drift(seed, n, 0), warmth);
        CHECK.due("drift(" + seed + ", " + n + ", 1)", x.drift(seed, n, 1), minutes);
    }

    private static void drift() {
        TepidPurse x = new TepidPurse();
        CHECK.due("nobody: drift(1, 1, 0)", x.drift(1, 1, 0), TepidPurse.STATE);
        CHECK.due("nobody: drift(1, 0, 0)", x.drift(1, 0, 0), BAD);
        CHECK.due("nobody: drift(1, 1, 2)", x.drift(1, 1, 2), BAD);
        x = CHECK.told("man 0 0;");
        CHECK.due("no stones: drift(1, 1, 0)", x.drift(1, 1, 0), TepidPurse.STATE);
        x = CHECK.told("man 5 0;soap 40 0;");
        driftIs(x, 1, 5, 0, 5);
        x = CHECK.told("man 5 0;man 5 0;soap 40 0;debt 0 1 9;");
        // by seed 1: 16838 5758, 10113 17515, 31051 5627, 23010 7419, 16212 4086
        driftIs(x, 1, 1, 0, 1);
        driftIs(x, 1, 2, 35, 2);
        driftIs(x, 1, 3, 35, 3);
        driftIs(x, 1, 5, 64, 5);
        CHECK.due("drift(1, 0, 0)", x.drift(1, 0, 0), BAD);
        CHECK.due("drift(1, 61, 0)", x.drift(1, 61, 0), BAD);
        CHECK.due("drift(1, 1, -1)", x.drift(1, 1, -1), BAD);
        CHECK.due("drift(1, 1, 2)", x.drift(1, 1, 2), BAD);
        driftIs(x, Integer.MIN_VALUE, 1, x.drift(0, 1, 0), x.drift(0, 1, 1));
        CHECK.due("MINUTE", x.rule(6), 0);
        CHECK.due("WARMTH", x.stone(0, 1), 40);
        CHECK.due("whose it is", x.stone(0, 2), 0);
        CHECK.due("DEBT", x.debt(0, 2), 9);
        x.dress(1, 1, 4);
        // 40 37, then 5 minutes: 35 33 31 29 27
        driftIs(x, 1, 2, 27, 6);
    }

    private static void driftAmongStones() {
        TepidPurse x = CHECK.told("man 5 0;man 5 0;man 5 0;soap 40 0;soap 4 0;soap 60 2;");
        // 16838 % 3 = 2, 5758 % 3 = 1: 60 comes as 56; 10113 % 3 = 0, 17515 % 3 = 1: 40 37 comes as 35
        driftIs(x, 1, 1, 56, 1);
        driftIs(x, 1, 2, 91, 2);
        // 31051 % 3 = 1, 5627 % 3 = 2: the pebble comes as 1
        driftIs(x, 1, 3, 92, 3);
        // however late it is
        for (int i = 0; i < 16; i++) {
            x.go(60);
        }
        x.go(39);
        driftIs(x, 1, 60, 0, 60);
    }

    public static void main(String[] args) {
        seeAndForget();
        fits();
        drift();
        driftAmongStones();
        CHECK.finish();
    }
}
