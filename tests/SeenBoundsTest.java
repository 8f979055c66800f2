import java.util.function.Supplier;

/** The boundary cases of what was SEEN and of a seed, and of promises 31 to 34: see, forget, fits, drift. */
public final class SeenBoundsTest {
    private static final Bounds BOUNDS = new Bounds(SeenBoundsTest.class);
    private static final int BAD = TepidPurse.BAD;
    private static final int STATE = TepidPurse.STATE;
    private static final int FULL = TepidPurse.FULL;
    private static final int NONE = TepidPurse.NONE;

    private static Supplier<TepidPurse> told(String text) {
        return () -> BOUNDS.told(text);
    }

    /** The village, with the first stone seen so often as it is. */
    private static TepidPurse seen(int often) {
        TepidPurse x = Bounds.village();
        for (int i = 0; i < often; i++) {
            x.see(0, 90);
        }
        return x;
    }

    // ---- promise 31

    @Says(promise = 0, words = "SEEN (6): behind so many minutes (0 to 20) a STONE had so much WARMTH")
    static void sixAreSeen() {
        TepidPurse x = Bounds.village();
        for (int i = 1; i <= 6; i++) {
            BOUNDS.answers(x, i, "see", 0, 90);
        }
        BOUNDS.answers(x, FULL, "see", 0, 90);
        BOUNDS.answers(x, 6, "count", 0);
    }

    @Says(promise = 31, words = "behind t minutes (0 to 20) a STONE had WARMTH w (0 to 99): how many are")
    static void theLeastAndTheMostSeen() {
        TepidPurse x = new TepidPurse();
        BOUNDS.answers(x, 1, "see", 0, 0);
        BOUNDS.answers(x, 2, "see", 20, 99);
        BOUNDS.answers(x, 3, "see", 0, 99);
        BOUNDS.answers(x, 4, "see", 20, 0);
        // 99 with a rate of 1 has 30 behind 20 minutes, and 0 stays 0
        x = BOUNDS.told("man 5 0;soap 99 0;soap 0 0;");
        x.see(20, 30);
        BOUNDS.answers(x, 1, "fits", 2);
        x.see(0, 99);
        BOUNDS.answers(x, 1, "fits", 2);
        x.forget(0);
        x.see(20, 0);
        x.see(0, 0);
        BOUNDS.answers(x, 2, "fits", 2);
    }

    @Says(promise = 31, words = "BAD")
    static void nothingToSee() {
        BOUNDS.badOutside(TepidPurse::new, 0, 20, 0, "see", 0, 0);
        BOUNDS.badOutside(TepidPurse::new, 0, 99, 1, "see", 0, 0);
        BOUNDS.badOutside(Bounds::village, 0, 20, 0, "see", 0, 90);
        BOUNDS.badOutside(Bounds::village, 0, 99, 1, "see", 20, 90);
    }

    @Says(promise = 31, words = "FULL")
    static void theSeventhIsNotSeen() {
        BOUNDS.answers(seen(5), 6, "see", 1, 1);
        BOUNDS.refuses(() -> seen(6), FULL, "see", 1, 1);
        TepidPurse x = seen(6);
        x.forget(5);
        BOUNDS.answers(x, 6, "see", 1, 76);
        BOUNDS.answers(x, 1, "fits", 0);
    }

    @Says(promise = 31, words = "BAD; FULL")
    static void badGoesAheadOfFull() {
        BOUNDS.badOutside(() -> seen(6), 0, 20, 0, "see", 0, 0);
        BOUNDS.badOutside(() -> seen(6), 0, 99, 1, "see", 0, 0);
    }

    // ---- promise 32

    @Says(promise = 32, words = "SEEN are the first n alone: how many there were")
    static void allOrNoneForgotten() {
        TepidPurse x = seen(6);
        BOUNDS.answers(x, 6, "forget", 6);
        BOUNDS.answers(x, 6, "forget", 5);
        BOUNDS.answers(x, 5, "forget", 1);
        BOUNDS.answers(x, 1, "forget", 1);
        BOUNDS.answers(x, 1, "forget", 0);
        BOUNDS.answers(x, 0, "forget", 0);
        BOUNDS.answers(x, 0, "count", 0);
    }

    @Says(promise = 32, words = "SEEN are the first n alone")
    static void theFirstAreKept() {
        TepidPurse x = seen(1);
        x.see(0, 40);
        BOUNDS.answers(x, 0, "fits", 0);
        x.forget(1);
        BOUNDS.answers(x, 1, "fits", 2);
        x.see(0, 90);
        BOUNDS.answers(x, 1, "fits", 2);
    }

    @Says(promise = 32, words = "BAD")
    static void noSuchForgetting() {
        BOUNDS.badOutside(TepidPurse::new, 0, 0, 0, "forget", 0);
        BOUNDS.badOutside(() -> seen(2), 0, 2, 0, "forget", 0);
        BOUNDS.badOutside(() -> seen(6), 0, 6, 0, "forget", 0);
    }

    // ---- promise 33

    private static void fits(Supplier<TepidPurse> upToThere, int pairs, int first, int stones, int people) {
        BOUNDS.tells(upToThere, pairs, "fits", 0);
        BOUNDS.tells(upToThere, first, "fits", 1);
        BOUNDS.tells(upToThere, stones, "fits", 2);
        BOUNDS.tells(upToThere, people, "fits", 3);
    }

    private static Supplier<TepidPurse> saw(Supplier<TepidPurse> upToThere, int... minutesAndWarmths) {
        return () -> {
            TepidPurse x = upToThere.get();
            for (int i = 0; i + 1 < minutesAndWarmths.length; i += 2) {
                x.see(minutesAndWarmths[i], minutesAndWarmths[i + 1]);
            }
            return x;
        };
    }

    private static Supplier<TepidPurse> villageThatSaw(int... minutesAndWarmths) {
        return saw(Bounds::village, minutesAndWarmths);
    }

    @Says(promise = 33, words = "A STONE and a ONE that FIT: how many pairs (what 0)")
    static void withNothingSeenAllFit() {
        fits(Bounds::village, 12, 0, 15, 7);
        fits(told("man 0 0;man 0 0;man 0 0;man 0 0;soap 1 0;soap 1 0;soap 1 0;soap 1 0;soap 1 0;"), 20, 0, 31, 15);
    }

    @Says(promise = 33, words = "how many pairs (what 0)")
    static void withNobodyNoneFits() {
        fits(TepidPurse::new, 0, NONE, 0, 0);
        fits(told("man 0 0;man 0 0;"), 0, NONE, 0, 0);
    }

    @Says(promise = 33, words = "the first as 10 times the STONE and the ONE (1)")
    static void theFirstAndTheLastPair() {
        fits(villageThatSaw(0, 90), 3, 0, 1, 7);
        // soap of 8 in the purse of all three: 8 6 5, 8 6 4, 8 7 6
        fits(villageThatSaw(1, 7, 2, 6, 0, 8), 2, 30, 8, 5);
        // slate of 60: 44, 35, 50
        fits(villageThatSaw(1, 50), 1, 22, 4, 4);
        Supplier<TepidPurse> crowd = told("man 0 0;man 0 0;man 0 0;man 5 0;soap 1 0;soap 1 0;soap 1 0;soap 1 0;slate 60 0;");
        fits(saw(crowd, 1, 50), 1, 43, 16, 8);
    }

    @Says(promise = 0, words = "it would have as much as SEEN each time")
    static void eachTimeAsMuch() {
        fits(villageThatSaw(0, 90, 1, 76, 2, 64, 0, 90, 1, 76, 2, 64), 1, 0, 1, 1);
        fits(villageThatSaw(0, 90, 1, 76, 2, 64, 0, 90, 1, 76, 2, 63), 0, NONE, 0, 0);
        fits(villageThatSaw(0, 89, 1, 76), 0, NONE, 0, 0);
    }

    @Says(promise = 33, words = "STONES in some (2), PEOPLE in some (3; bits)")
    static void eachQuestionAnew() {
        TepidPurse x = Bounds.village();
        int[][] due = {{12, 0, 15, 7}, {1, 22, 4, 4}, {0, NONE, 0, 0}};
        for (int i = 0; i < due.length; i++) {
            for (int what = 0; what <= 3; what++) {
                BOUNDS.answers(x, due[i][what], "fits", what);
            }
            x.see(1, 50 + i);
        }
        x.forget(1);
        for (int what = 0; what <= 3; what++) {
            BOUNDS.answers(x, due[1][what], "fits", what);
        }
    }

    @Says(promise = 33, words = "BAD")
    static void noSuchFit() {
        BOUNDS.badOutside(Bounds::village, 0, 3, 0, "fits", 0);
        BOUNDS.badOutside(TepidPurse::new, 0, 3, 0, "fits", 0);
    }

    @Says(promise = 33, words = "NONE (1): there is none")
    static void noneThatFits() {
        BOUNDS.refuses(villageThatSaw(0, 91), NONE, "fits", 1);
        BOUNDS.refuses(villageThatSaw(0, 91), 0, "fits", 0);
        BOUNDS.refuses(villageThatSaw(0, 91), 0, "fits", 2);
        BOUNDS.refuses(villageThatSaw(0, 91), 0, "fits", 3);
    }

    // ---- promise 34

    private static final String THREE = "man 5 0;man 5 0;man 5 0;soap 40 0;soap 4 0;soap 60 2;";
    private static final String FAR = "man 0 0;man 5 9;man 2 3;man 1 6;slate 99 0;soap 99 1;plain 99 2;flint 99 3;soap 50 0;";

    private static void drift(String text, int seed, int n, int warmth, int minutes) {
        BOUNDS.tells(told(text), warmth, "drift", seed, n, 0);
        BOUNDS.tells(told(text), minutes, "drift", seed, n, 1);
    }

    @Says(promise = 34, words = "By itself, n times (1 to 60) by a seed")
    static void onceAndSixtyTimes() {
        drift(THREE, 1, 1, 56, 1);
        drift(THREE, 1, 2, 91, 2);
        drift(THREE, 1, 60, 317, 60);
        drift(FAR, 1, 1, 50, 4);
        drift(FAR, 1, 60, 131, 237);
    }

    @Says(promise = 34, words = "the seed becomes seed times 1103515245 and 12345")
    static void theSeedGoesRound() {
        drift(FAR, 0, 60, 89, 297);
        drift(FAR, -1, 5, 12, 23);
        drift(FAR, -1, 60, 12, 309);
        drift(FAR, Integer.MAX_VALUE, 60, 12, 309);
        drift(FAR, Integer.MIN_VALUE, 60, 89, 297);
        drift(THREE, 12345678, 60, 253, 60);
    }

    @Says(promise = 34, words = "bits 16 to 30 of it modulo STONES, then (once more) modulo PEOPLE")
    static void notTheHighestBit() {
        // by seed 1 the second is 38526 with bit 31, 5758 without: 0 or 1 modulo 3
        drift(THREE, 1, 1, 56, 1);
        // by seed -1 the first is 48697 or 15929: 1 or 2 modulo 3 (the third one's own is paid to the third)
        drift(THREE, -1, 1, 0, 1);
    }

    @Says(promise = 34, words = "or, if it is his, a minute goes")
    static void oneOneKeepsHisStone() {
        drift("man 5 0;soap 99 0;", 7, 1, 0, 1);
        drift("man 5 0;soap 99 0;", 7, 60, 0, 60);
    }

    @Says(promise = 34, words = "WARMTH of all that was PAID, when it came, summed (what 0), minutes (1)")
    static void whatAPebbleHasIsSummedToo() {
        // by seed 1 the third of three is the pebble, which comes with 1
        drift(THREE, 1, 2, 91, 2);
        drift(THREE, 1, 3, 92, 3);
    }

    @Says(promise = 34, words = "By itself")
    static void howeverLateItIs() {
        BOUNDS.tells(() -> Bounds.late(FAR, 999), 237, "drift", 1, 60, 1);
        BOUNDS.tells(() -> Bounds.late(FAR, 999), 131, "drift", 1, 60, 0);
    }

    @Says(promise = 34, words = "BAD")
    static void noSuchDrift() {
        BOUNDS.badOutside(Bounds::village, 1, 60, 1, "drift", 1, 1, 0);
        BOUNDS.badOutside(Bounds::village, 0, 1, 2, "drift", 1, 1, 0);
    }

    @Says(promise = 34, words = "STATE: there are no STONES")
    static void noStonesToDrift() {
        for (int what = 0; what <= 1; what++) {
            BOUNDS.refuses(TepidPurse::new, STATE, "drift", 1, 1, what);
            BOUNDS.refuses(told("man 0 0;man 0 0;"), STATE, "drift", 1, 60, what);
        }
    }

    @Says(promise = 34, words = "BAD; STATE")
    static void badGoesAheadOfNoStones() {
        BOUNDS.refuses(TepidPurse::new, BAD, "drift", 1, 0, 0);
        BOUNDS.refuses(TepidPurse::new, BAD, "drift", 1, 61, 0);
        BOUNDS.refuses(told("man 0 0;"), BAD, "drift", 1, 1, 2);
    }

    public static void main(String[] args) {
        BOUNDS.run(31, 34);
    }
}
