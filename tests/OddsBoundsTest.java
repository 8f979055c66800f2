import java.util.function.Supplier;

/** The boundary cases of fractions and of the wind, and of promises 28 to 30: lasts, mean, spend. */
public final class OddsBoundsTest {
    private static final Bounds BOUNDS = new Bounds(OddsBoundsTest.class);

    /** One stone that cools by 1, and by a 20th of itself. */
    private static Supplier<TepidPurse> soap(int warmth, int wind) {
        return () -> BOUNDS.told("man 5 0;soap " + warmth + " 0;wind " + wind + ";");
    }

    private static Supplier<TepidPurse> priced(String stone, int wind, int... each) {
        StringBuilder text = new StringBuilder("man 5 0;" + stone + " 0;wind " + wind + ";");
        for (int t = 0; t < 6; t++) {
            text.append("price ").append(t).append(' ').append(each[t]).append(';');
        }
        return () -> BOUNDS.told(text.toString());
    }

    private static void lasts(Supplier<TepidPurse> upToThere, int n, long over, long under) {
        BOUNDS.tells(upToThere, over, "lasts", 0, n, 0);
        BOUNDS.tells(upToThere, under, "lasts", 0, n, 1);
    }

    private static void mean(Supplier<TepidPurse> upToThere, int n, long over, long under) {
        BOUNDS.tells(upToThere, over, "mean", 0, n, 0);
        BOUNDS.tells(upToThere, under, "mean", 0, n, 1);
    }

    private static void spend(Supplier<TepidPurse> upToThere, long over, long under, int atOnce) {
        BOUNDS.tells(upToThere, over, "spend", 0, 0);
        BOUNDS.tells(upToThere, under, "spend", 0, 1);
        BOUNDS.tells(upToThere, atOnce, "spend", 0, 2);
    }

    // ---- terms

    @Says(promise = 0, words = "Fractions are in lowest terms, the denominator above 0 (0 is 0 by 1)")
    static void nothingAndWholes() {
        lasts(soap(0, 3), 6, 0, 1);
        mean(soap(0, 3), 6, 0, 1);
        spend(soap(0, 3), 0, 1, 1);
        lasts(soap(99, 3), 6, 1, 1);
        mean(soap(99, 2), 1, 93, 1);
        // 187 by 2, 183 by 2
        mean(soap(99, 1), 1, 187, 2);
        mean(soap(99, 5), 1, 183, 2);
    }

    @Says(promise = 0, words = "in a windy one so twice, one behind the other")
    static void alwaysWindy() {
        // 99 94 89, 84 79, 75 71, 67 63, 59 56, 53 50
        mean(soap(99, 10), 1, 89, 1);
        mean(soap(99, 10), 6, 50, 1);
        // 20 18 17 by steps, not 20 less two of 2
        mean(soap(20, 10), 1, 17, 1);
    }

    @Says(promise = 0, words = "not below 0; in a windy one so twice")
    static void windyDownToNothing() {
        mean(soap(1, 10), 1, 0, 1);
        mean(soap(2, 10), 1, 0, 1);
        mean(soap(3, 10), 1, 1, 1);
        // 1 by 7 of 10, or nothing
        mean(soap(2, 3), 1, 7, 10);
        mean(soap(2, 3), 2, 0, 1);
    }

    // ---- promise 28

    @Says(promise = 28, words = "Each minute is windy by WIND, by itself: that a STONE is WARM behind n minutes (0 to 6): 0, 1")
    static void behindNoMinuteAndSix() {
        lasts(soap(5, 3), 0, 1, 1);
        lasts(soap(4, 3), 0, 0, 1);
        // 11 is 5 behind six calm minutes, and a pebble by one windy one
        lasts(soap(11, 1), 6, 531441, 1000000);
        lasts(soap(11, 2), 6, 4096, 15625);
        lasts(soap(11, 5), 6, 1, 64);
        lasts(soap(11, 9), 6, 1, 1000000);
        lasts(soap(10, 1), 6, 0, 1);
        lasts(soap(12, 5), 6, 7, 64);
    }

    @Says(promise = 28, words = "behind n minutes (0 to 6)")
    static void behindEachNumberOfMinutes() {
        // it must be calm each minute: 9 by 10, as often
        long[] over = {1, 9, 81, 729, 6561, 59049, 531441};
        long[] under = {1, 10, 100, 1000, 10000, 100000, 1000000};
        for (int n = 0; n <= 6; n++) {
            lasts(soap(5 + n, 1), n, over[n], under[n]);
            // 1 is left where it was calm each minute, else nothing
            mean(soap(1 + n, 1), n, over[n], under[n]);
        }
    }

    @Says(promise = 28, words = "Each minute is windy by WIND")
    static void neverAndAlwaysWindy() {
        lasts(soap(6, 0), 1, 1, 1);
        lasts(soap(6, 10), 1, 0, 1);
        lasts(soap(7, 10), 1, 1, 1);
        lasts(soap(11, 0), 6, 1, 1);
        lasts(soap(10, 0), 6, 0, 1);
        lasts(soap(17, 10), 6, 1, 1);
        lasts(soap(16, 10), 6, 0, 1);
    }

    @Says(promise = 28, words = "BAD")
    static void noSuchLasting() {
        BOUNDS.badOutside(Bounds::village, 0, 3, 0, "lasts", 0, 0, 0);
        BOUNDS.badOutside(Bounds::village, 0, 6, 1, "lasts", 0, 0, 0);
        BOUNDS.badOutside(Bounds::village, 0, 1, 2, "lasts", 0, 0, 0);
        BOUNDS.badOutside(() -> BOUNDS.told("man 0 0;"), 0, -1, 0, "lasts", 0, 0, 0);
    }

    // ---- promise 29

    @Says(promise = 29, words = "Likewise, the mean of its WARMTH: 0, 1")
    static void theMeanBehindNoMinuteAndSix() {
        mean(soap(99, 3), 0, 99, 1);
        mean(soap(0, 3), 0, 0, 1);
        mean(soap(99, 0), 6, 71, 1);
        mean(soap(99, 1), 6, 34300663, 500000);
        mean(soap(99, 9), 6, 25900663, 500000);
        mean(soap(99, 5), 6, 1903, 32);
        // a pebble has its WARMTH too
        mean(soap(4, 5), 1, 5, 2);
    }

    @Says(promise = 29, words = "BAD")
    static void noSuchMean() {
        BOUNDS.badOutside(Bounds::village, 0, 3, 0, "mean", 0, 0, 0);
        BOUNDS.badOutside(Bounds::village, 0, 6, 1, "mean", 0, 0, 0);
        BOUNDS.badOutside(Bounds::village, 0, 1, 2, "mean", 0, 0, 0);
        BOUNDS.badOutside(() -> BOUNDS.told("man 0 0;"), 0, -1, 0, "mean", 0, 0, 0);
    }

    // ---- promise 30

    @Says(promise = 30, words = "spends it at a minute of 0 to 5 from now on (as buys())")
    static void atTheFirstMinuteAndAtTheLast() {
        spend(priced("soap 99", 1, 1, 1, 1, 1, 1, 1), 99, 1, 1);
        spend(priced("soap 99", 0, 9, 9, 9, 9, 9, 1), 75, 1, 0);
        spend(priced("soap 99", 10, 9, 9, 9, 9, 9, 1), 56, 1, 0);
        spend(priced("soap 99", 5, 9, 9, 9, 9, 9, 1), 2081, 32, 0);
        spend(priced("soap 99", 1, 9, 9, 9, 9, 9, 1), 7300001, 100000, 0);
        spend(() -> Bounds.late("man 5 0;soap 99 0;wind 0;price 0 9;", 999), 94, 1, 0);
    }

    @Says(promise = 30, words = "whenever that is no less than the mean of what he buys later so")
    static void asMuchNowAsLater() {
        // 1 now, 1 for sure behind a minute
        spend(priced("soap 6", 0, 6, 5, 9, 9, 9, 9), 1, 1, 1);
        // 1 now, 2 for sure behind a minute
        spend(priced("soap 6", 5, 4, 2, 9, 9, 9, 9), 2, 1, 0);
        // nothing now, and nothing for sure later
        spend(priced("soap 6", 10, 9, 9, 9, 9, 9, 1), 0, 1, 1);
        // nothing now, and so little later
        spend(priced("soap 6", 5, 9, 9, 9, 9, 9, 1), 1, 32, 0);
        // 49 now, 89 for sure behind a windy minute
        spend(priced("soap 99", 10, 2, 1, 1, 1, 1, 1), 89, 1, 0);
    }

    @Says(promise = 30, words = "Who sees how warm it is spends it")
    static void heWaitsOnlyWhereItPays() {
        // slate by 3: 13 is 11 or 9 behind a minute; 11 by 3 is 3, but 9 or 7 by 2 is 4 or 3: he waits; 9 by 3 is 3,
        // and 7 or 5 by 2 is 3 or 2: he does not; who does not see it buys 3 by either minute
        spend(priced("slate 13", 5, 9, 3, 2, 9, 9, 9), 13, 4, 0);
        // 33 is 28 or 23: 28 by 4 is 7, 23 or 19 by 3 is 7 or 6: he does not wait; 23 by 4 is 5, 19 or 16 by 3 is 6 or 5
        spend(priced("slate 33", 5, 9, 4, 3, 9, 9, 9), 25, 4, 0);
    }

    @Says(promise = 30, words = "whether he spends it at once (2: 1, 0)")
    static void atOnceBySoLittle() {
        // 1 now; 5 by 1 behind a minute, or 4 by 1 if it is windy
        for (int wind = 0; wind <= 10; wind++) {
            BOUNDS.tells(priced("soap 6", wind, 6, 1, 9, 9, 9, 9), 0, "spend", 0, 2);
            // 1 behind a calm minute alone, nothing behind a windy one: never more than 1
            BOUNDS.tells(priced("soap 6", wind, 6, 5, 9, 9, 9, 9), 1, "spend", 0, 2);
            // nothing now; something behind a calm minute, if there may be one
            BOUNDS.tells(priced("soap 6", wind, 7, 5, 9, 9, 9, 9), wind < 10 ? 0 : 1, "spend", 0, 2);
        }
    }

    @Says(promise = 30, words = "BAD")
    static void noSuchSpending() {
        BOUNDS.badOutside(Bounds::village, 0, 3, 0, "spend", 0, 0);
        BOUNDS.badOutside(Bounds::village, 0, 2, 1, "spend", 0, 0);
        BOUNDS.badOutside(() -> BOUNDS.told("man 0 0;"), 0, -1, 0, "spend", 0, 0);
    }

    public static void main(String[] args) {
        BOUNDS.run(28, 30);
    }
}
