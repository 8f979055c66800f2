import java.util.function.Supplier;

/** The boundary cases of cooling, paying and heating, and of promises 17 to 21: go, pay, heat, after, cold. */
public final class TimeBoundsTest {
    private static final Bounds BOUNDS = new Bounds(TimeBoundsTest.class);
    private static final int BAD = TepidPurse.BAD;
    private static final int STATE = TepidPurse.STATE;
    private static final int FULL = TepidPurse.FULL;

    /** Ten minutes to pay, nine to heat. */
    private static final String FAR = "man 5 0;man 5 9;soap 40 0;soap 30 1;oven 4 50;debt 0 1 40;";
    /** A minute to pay, a minute to heat. */
    private static final String NEAR = "man 5 3;man 5 3;soap 40 0;soap 30 1;oven 3 50;debt 0 1 40;";

    private static TepidPurse of(int warmth, String kind, int wool) {
        return BOUNDS.told("man " + wool + " 0;" + kind + " " + warmth + " 0;");
    }

    private static Supplier<TepidPurse> late(String text, int minute) {
        return () -> Bounds.late(text, minute);
    }

    // ---- cooling

    @Says(promise = 0, words = "by 1 and a 20th of WARMTH times RATE (down)")
    static void aTwentiethIsTakenDown() {
        int[] before = {19, 20, 39, 40, 99};
        int[] behind = {18, 18, 37, 37, 94};
        for (int i = 0; i < before.length; i++) {
            BOUNDS.answers(of(before[i], "soap", 5), behind[i], "after", 0, 1);
        }
        // slate bare: 8 by 20
        int[] quick = {2, 3, 4, 5, 7, 8, 99};
        int[] left = {1, 1, 2, 2, 4, 4, 59};
        for (int i = 0; i < quick.length; i++) {
            BOUNDS.answers(of(quick[i], "slate", 0), left[i], "after", 0, 1);
        }
    }

    @Says(promise = 0, words = "not below 0")
    static void noColderThanNothing() {
        BOUNDS.answers(of(0, "slate", 0), 0, "after", 0, 1);
        BOUNDS.answers(of(1, "slate", 0), 0, "after", 0, 1);
        TepidPurse x = of(1, "slate", 0);
        x.go(60);
        BOUNDS.answers(x, 0, "stone", 0, 1);
        x = of(0, "slate", 0);
        x.go(1);
        BOUNDS.answers(x, 0, "stone", 0, 1);
    }

    @Says(promise = 0, words = "in each minute (without wind) all STONES COOL, each where it is; MINUTE is 1 more")
    static void noWindBlows() {
        TepidPurse x = BOUNDS.told("man 5 0;man 0 0;slate 60 0;slate 60 1;wind 10;");
        x.go(1);
        BOUNDS.answers(x, 50, "stone", 0, 1);
        BOUNDS.answers(x, 35, "stone", 1, 1);
        BOUNDS.answers(x, 1, "rule", 6);
    }

    // ---- paying

    @Says(promise = 0, words = "as many minutes go as their PLACES are apart, and 1; then it is his")
    static void nearAndFarAway() {
        TepidPurse x = BOUNDS.told(NEAR);
        BOUNDS.answers(x, 37, "pay", 0, 1);
        BOUNDS.answers(x, 1, "rule", 6);
        BOUNDS.answers(x, 1, "stone", 0, 2);
        // 40 37 35 33 31 29 27 25 23 21 19, from 0 to 9
        x = BOUNDS.told(FAR);
        BOUNDS.answers(x, 19, "pay", 0, 1);
        BOUNDS.answers(x, 10, "rule", 6);
        // from 9 to 0: 30 28 26 24 22 20 18 17 16 15 14 by now, 4 behind ten more
        BOUNDS.answers(x, 14, "stone", 1, 1);
        BOUNDS.answers(x, 4, "pay", 1, 0);
        BOUNDS.answers(x, 20, "rule", 6);
    }

    @Says(promise = 0, words = "It COUNTS by its WARMTH then, if it is WARM (else nothing)")
    static void fiveCountsButNotFour() {
        TepidPurse x = BOUNDS.told("man 5 0;man 5 0;soap 6 0;soap 5 0;soap 0 0;debt 0 1 40;");
        BOUNDS.answers(x, 5, "pay", 0, 1);
        BOUNDS.answers(x, 35, "debt", 0, 2);
        x.warm(1, 1, 5);
        BOUNDS.answers(x, 4, "pay", 1, 1);
        BOUNDS.answers(x, 35, "debt", 0, 2);
        BOUNDS.answers(x, 0, "pay", 2, 1);
        BOUNDS.answers(x, 35, "debt", 0, 2);
        BOUNDS.answers(x, 7, "one", 1, 2);
    }

    @Says(promise = 0, words = "the first DEBT of who gave it to him that is not 0 is less by so much (0 at least)")
    static void aDebtIsNoLessThanNothing() {
        int[] owed = {38, 37, 36, 1};
        int[] still = {1, 0, 0, 0};
        for (int i = 0; i < owed.length; i++) {
            TepidPurse x = BOUNDS.told("man 5 0;man 5 0;soap 40 0;debt 0 1 " + owed[i] + ";debt 0 1 9;");
            x.pay(0, 1);
            BOUNDS.answers(x, still[i], "debt", 0, 2);
            BOUNDS.answers(x, 9, "debt", 1, 2);
        }
    }

    @Says(promise = 0, words = "the first DEBT of who gave it to him that is not 0")
    static void theFirstDebtThatIsNotNothing() {
        TepidPurse x = BOUNDS.told("man 5 0;man 5 0;man 5 0;soap 40 0;debt 1 0 50;debt 0 2 50;debt 0 1 0;debt 0 1 50;");
        x.pay(0, 1);
        int[] still = {50, 50, 0, 13};
        for (int d = 0; d < 4; d++) {
            BOUNDS.answers(x, still[d], "debt", d, 2);
        }
        x = BOUNDS.told("man 5 0;man 5 0;soap 40 0;debt 0 1 0;");
        BOUNDS.answers(x, 37, "pay", 0, 1);
        BOUNDS.answers(x, 0, "debt", 0, 2);
        x = BOUNDS.told("man 5 0;man 5 0;soap 40 0;");
        BOUNDS.answers(x, 37, "pay", 0, 1);
        BOUNDS.answers(x, 0, "count", 6);
    }

    // ---- heating

    @Says(promise = 0, words = "as many minutes as PLACES are apart; there a minute more goes")
    static void theOvenNearAndFarAway() {
        TepidPurse x = BOUNDS.told("man 5 4;soap 9 0;oven 4 50;");
        BOUNDS.answers(x, 50, "heat", 0);
        BOUNDS.answers(x, 1, "rule", 6);
        // 50 47 44 41 38 36 34 32 30 28 on the way back
        x = BOUNDS.told("man 5 0;soap 9 0;oven 9 50;");
        BOUNDS.answers(x, 28, "heat", 0);
        BOUNDS.answers(x, 19, "rule", 6);
        x = BOUNDS.told("man 5 9;soap 9 0;oven 0 50;");
        BOUNDS.answers(x, 28, "heat", 0);
        BOUNDS.answers(x, 19, "rule", 6);
    }

    @Says(promise = 0, words = "in which it does not COOL, it has HEAT then, if it had less")
    static void lessThanTheOvenAndMore() {
        int[] before = {0, 49, 50, 51, 99};
        int[] behind = {50, 50, 50, 51, 99};
        for (int i = 0; i < before.length; i++) {
            TepidPurse x = BOUNDS.told("man 5 4;soap " + before[i] + " 0;soap 30 0;oven 4 50;");
            BOUNDS.answers(x, behind[i], "heat", 0);
            BOUNDS.answers(x, 28, "stone", 1, 1);
        }
    }

    @Says(promise = 0, words = "it has HEAT then")
    static void theLeastAndTheMostHeat() {
        TepidPurse x = BOUNDS.told("man 5 0;soap 0 0;oven 0 5;");
        BOUNDS.answers(x, 5, "heat", 0);
        x.set(1, 99);
        BOUNDS.answers(x, 99, "heat", 0);
    }

    // ---- promise 17

    @Says(promise = 17, words = "n minutes go (0 to 60): how many STONES are WARM then")
    static void noMinuteAndSixty() {
        BOUNDS.refuses(Bounds::village, 4, "go", 0);
        TepidPurse x = Bounds.village();
        BOUNDS.answers(x, 0, "go", 60);
        BOUNDS.answers(x, 60, "rule", 6);
        x = BOUNDS.told("man 5 0;soap 6 0;soap 5 0;soap 4 0;soap 0 0;soap 99 0;");
        BOUNDS.answers(x, 3, "go", 0);
        BOUNDS.answers(x, 2, "go", 1);
        BOUNDS.answers(x, 1, "go", 1);
    }

    @Says(promise = 17, words = "BAD")
    static void noSuchMinutes() {
        BOUNDS.badOutside(Bounds::village, 0, 60, 0, "go", 0);
        BOUNDS.badOutside(TepidPurse::new, 0, 60, 0, "go", 0);
    }

    @Says(promise = 17, words = "FULL: MINUTE would be 1000 or more")
    static void theLastMinuteToGo() {
        BOUNDS.refuses(late(FAR, 999), FULL, "go", 1);
        BOUNDS.refuses(late(FAR, 940), FULL, "go", 60);
        BOUNDS.refuses(late(FAR, 990), FULL, "go", 10);
        BOUNDS.refuses(late(FAR, 990), FULL, "go", 60);
        BOUNDS.refuses(late(FAR, 999), 2, "go", 0);
        TepidPurse x = Bounds.late(FAR, 939);
        BOUNDS.answers(x, 0, "go", 60);
        BOUNDS.answers(x, 999, "rule", 6);
        x = Bounds.late(FAR, 998);
        BOUNDS.answers(x, 2, "go", 1);
        BOUNDS.answers(x, 999, "rule", 6);
    }

    @Says(promise = 17, words = "BAD; FULL")
    static void badMinutesAtTheLast() {
        BOUNDS.badOutside(late(FAR, 999), 0, 60, 0, "go", 0);
    }

    // ---- promise 18

    @Says(promise = 18, words = "A STONE is PAID to a ONE: its WARMTH then")
    static void aPebbleIsPaidToo() {
        TepidPurse x = BOUNDS.told("man 5 0;man 5 0;soap 3 0;soap 0 0;");
        BOUNDS.answers(x, 2, "pay", 0, 1);
        BOUNDS.answers(x, 0, "pay", 1, 1);
        BOUNDS.answers(x, 3, "one", 1, 2);
    }

    @Says(promise = 18, words = "BAD")
    static void nobodyToPay() {
        BOUNDS.badOutside(Bounds::village, 0, 3, 0, "pay", 0, 1);
        BOUNDS.badOutside(Bounds::village, 0, 2, 1, "pay", 0, 1);
        BOUNDS.badOutside(() -> BOUNDS.told("man 0 0;man 0 0;man 0 0;man 0 0;"), 0, -1, 0, "pay", 0, 0);
    }

    @Says(promise = 18, words = "STATE: it is his")
    static void itIsHisAlready() {
        BOUNDS.refuses(Bounds::village, STATE, "pay", 0, 0);
        BOUNDS.refuses(Bounds::village, STATE, "pay", 3, 2);
        TepidPurse x = BOUNDS.told(NEAR);
        x.pay(0, 1);
        BOUNDS.answers(x, STATE, "pay", 0, 1);
        BOUNDS.answers(x, 35, "pay", 0, 0);
    }

    @Says(promise = 18, words = "FULL: MINUTE would be 1000 or more")
    static void theLastMinuteToPay() {
        BOUNDS.refuses(late(NEAR, 999), FULL, "pay", 0, 1);
        BOUNDS.refuses(late(FAR, 990), FULL, "pay", 0, 1);
        BOUNDS.refuses(late(FAR, 999), FULL, "pay", 1, 0);
        TepidPurse x = Bounds.late(NEAR, 998);
        BOUNDS.answers(x, 37, "pay", 0, 1);
        BOUNDS.answers(x, 999, "rule", 6);
        BOUNDS.answers(x, 3, "debt", 0, 2);
        x = Bounds.late(FAR, 989);
        BOUNDS.answers(x, 19, "pay", 0, 1);
        BOUNDS.answers(x, 999, "rule", 6);
        BOUNDS.answers(x, 21, "debt", 0, 2);
    }

    @Says(promise = 18, words = "BAD; STATE: it is his; FULL")
    static void theFirstThatFitsAtTheLast() {
        BOUNDS.refuses(late(NEAR, 999), STATE, "pay", 0, 0);
        BOUNDS.refuses(late(NEAR, 999), BAD, "pay", 2, 0);
        BOUNDS.refuses(late(NEAR, 999), BAD, "pay", 0, 2);
    }

    // ---- promise 19

    @Says(promise = 19, words = "A STONE is HEATED: its WARMTH when it is back")
    static void heatedUntilAPebbleAgain() {
        // bare slate: 5 2 1 on the way back
        TepidPurse x = BOUNDS.told("man 0 2;slate 99 0;oven 0 5;");
        x.warm(0, 1, 0);
        BOUNDS.answers(x, 1, "heat", 0);
        BOUNDS.answers(x, 5, "rule", 6);
        BOUNDS.answers(x, 0, "stone", 0, 4);
    }

    @Says(promise = 19, words = "BAD")
    static void nothingToHeat() {
        BOUNDS.badOutside(Bounds::village, 0, 3, 0, "heat", 0);
        BOUNDS.badOutside(() -> BOUNDS.told("man 0 0;"), 0, -1, 0, "heat", 0);
    }

    @Says(promise = 19, words = "FULL (likewise)")
    static void theLastMinuteToHeat() {
        BOUNDS.refuses(late(NEAR, 999), FULL, "heat", 0);
        BOUNDS.refuses(late(FAR, 991), FULL, "heat", 0);
        // 9 to 4: five there, five back
        BOUNDS.refuses(late(FAR, 989), FULL, "heat", 1);
        TepidPurse x = Bounds.late(NEAR, 998);
        BOUNDS.answers(x, 50, "heat", 0);
        BOUNDS.answers(x, 999, "rule", 6);
        x = Bounds.late(FAR, 990);
        BOUNDS.answers(x, 38, "heat", 0);
        BOUNDS.answers(x, 999, "rule", 6);
        x = Bounds.late(FAR, 988);
        BOUNDS.answers(x, 36, "heat", 1);
        BOUNDS.answers(x, 999, "rule", 6);
    }

    @Says(promise = 19, words = "BAD; FULL")
    static void nothingToHeatAtTheLast() {
        BOUNDS.refuses(late(NEAR, 999), BAD, "heat", 2);
        BOUNDS.refuses(late(NEAR, 999), BAD, "heat", -1);
    }

    // ---- promise 20

    @Says(promise = 20, words = "WARMTH of a STONE behind n minutes (0 to 60)")
    static void behindNoMinuteAndSixty() {
        BOUNDS.tells(Bounds::village, 90, "after", 0, 0);
        BOUNDS.tells(Bounds::village, 76, "after", 0, 1);
        BOUNDS.tells(Bounds::village, 0, "after", 0, 60);
        BOUNDS.tells(late(NEAR, 999), 0, "after", 0, 60);
        // 99 94 89 84 79 75 71 67 63 59 56 53 50 47 44 41 38 36 34 32 30 28 26 24 22 20 18, then 1 less each: 0 behind 44
        BOUNDS.answers(of(99, "soap", 5), 18, "after", 0, 26);
        BOUNDS.answers(of(99, "soap", 5), 1, "after", 0, 43);
        BOUNDS.answers(of(99, "soap", 5), 0, "after", 0, 44);
    }

    @Says(promise = 20, words = "BAD")
    static void noSuchAfter() {
        BOUNDS.badOutside(Bounds::village, 0, 60, 1, "after", 0, 0);
        BOUNDS.badOutside(Bounds::village, 0, 3, 0, "after", 0, 0);
    }

    // ---- promise 21

    @Says(promise = 21, words = "Behind how many minutes a STONE first is not WARM (0: it is not now)")
    static void coldAtOnceAndAtTheLatest() {
        int[] warmths = {0, 4, 5, 6, 19, 20, 99};
        int[] minutes = {0, 0, 1, 2, 15, 15, 40};
        for (int i = 0; i < warmths.length; i++) {
            int warmth = warmths[i];
            BOUNDS.tells(() -> of(warmth, "soap", 5), minutes[i], "cold", 0);
        }
        BOUNDS.tells(() -> of(5, "slate", 0), 1, "cold", 0);
    }

    @Says(promise = 21, words = "BAD")
    static void noStoneToBeCold() {
        BOUNDS.badOutside(Bounds::village, 0, 3, 0, "cold", 0);
        BOUNDS.badOutside(TepidPurse::new, 0, -1, 0, "cold", 0);
    }

    public static void main(String[] args) {
        BOUNDS.run(17, 21);
    }
}
