import java.util.function.Supplier;

/** The boundary cases of ways, and of promises 22 to 27: way, fewest, settle, wool, walks, buys. */
public final class WaysBoundsTest {
    private static final Bounds BOUNDS = new Bounds(WaysBoundsTest.class);
    private static final int BAD = TepidPurse.BAD;
    private static final int STATE = TepidPurse.STATE;
    private static final int NONE = TepidPurse.NONE;

    private static Supplier<TepidPurse> told(String text) {
        return () -> BOUNDS.told(text);
    }

    /** By 8, 5 and 3: 99 59 35 with the first, 26 19 14 with the second, 11 9 7 5 4 3 2 with the third. */
    private static TepidPurse throughAll() {
        return BOUNDS.told("man 0 0;man 3 1;man 5 3;man 0 9;slate 99 0;");
    }

    /** Five stones that come as 18, 17, 16, 15, 14 when they are paid in a row. */
    private static TepidPurse fiveStones(int owed) {
        return BOUNDS.told("man 5 0;man 0 0;soap 20 0;soap 20 0;soap 20 0;soap 20 0;soap 20 0;debt 0 1 " + owed + ";");
    }

    // ---- promise 22

    @Says(promise = 0, words = "through some others, each but once, to a ONE in the end")
    static void straightOrThroughAll() {
        TepidPurse x = BOUNDS.told("man 0 0;man 5 9;soap 99 1;");
        BOUNDS.answers(x, 56, "way", 0, 0, 0);
        BOUNDS.answers(x, 10, "way", 0, 0, 1);
        BOUNDS.answers(x, 0, "way", 0, 0, 10);
        BOUNDS.answers(x, NONE, "way", 0, 0, 11);
        x = throughAll();
        int[] hands = {1, 2, 3, NONE};
        for (int i = 0; i < 4; i++) {
            BOUNDS.answers(x, hands[i], "way", 0, 3, 10 + i);
        }
    }

    @Says(promise = 22, words = "by which it comes with most WARMTH")
    static void theMostWarmthBySoLittle() {
        TepidPurse x = throughAll();
        BOUNDS.answers(x, 2, "way", 0, 3, 0);
        BOUNDS.answers(x, 12, "way", 0, 3, 1);
    }

    @Says(promise = 22, words = "of several that through fewest")
    static void asWarmThroughFewest() {
        // nothing is left of it by any way
        TepidPurse x = BOUNDS.told("man 5 0;man 5 0;man 5 0;man 0 9;soap 0 0;");
        BOUNDS.answers(x, 0, "way", 0, 3, 0);
        BOUNDS.answers(x, 10, "way", 0, 3, 1);
        BOUNDS.answers(x, 3, "way", 0, 3, 10);
        BOUNDS.answers(x, NONE, "way", 0, 3, 11);
        // straight 99 94 89; through the second, who is between, in three minutes
        x = BOUNDS.told("man 5 0;man 5 1;man 5 1;soap 99 0;");
        BOUNDS.answers(x, 89, "way", 0, 2, 0);
        BOUNDS.answers(x, 2, "way", 0, 2, 1);
        BOUNDS.answers(x, 2, "way", 0, 2, 10);
        BOUNDS.answers(x, NONE, "way", 0, 2, 11);
    }

    @Says(promise = 22, words = "of these the first by PEOPLE")
    static void asWarmThroughAsFewTheFirst() {
        // bare 99 59, then by 3: 50 42 35 29 24 20 16 13 11 9
        TepidPurse x = BOUNDS.told("man 0 0;man 5 0;man 5 0;man 0 9;slate 99 0;");
        BOUNDS.answers(x, 9, "way", 0, 3, 0);
        BOUNDS.answers(x, 1, "way", 0, 3, 10);
        BOUNDS.answers(x, 3, "way", 0, 3, 11);
        x = BOUNDS.told("man 5 0;man 5 0;man 0 9;man 0 0;slate 99 3;");
        BOUNDS.answers(x, 9, "way", 0, 2, 0);
        BOUNDS.answers(x, 0, "way", 0, 2, 10);
        BOUNDS.answers(x, 2, "way", 0, 2, 11);
    }

    @Says(promise = 22, words = "10 and i (0 to 3): the i-th ONE who gets it (from 0)")
    static void fromTheFirstWhoGetsIt() {
        BOUNDS.tells(Bounds::village, 53, "way", 0, 1, 0);
        BOUNDS.tells(Bounds::village, 5, "way", 0, 1, 1);
        BOUNDS.tells(Bounds::village, 2, "way", 0, 1, 10);
        BOUNDS.tells(Bounds::village, 1, "way", 0, 1, 11);
    }

    @Says(promise = 22, words = "BAD")
    static void noSuchWay() {
        BOUNDS.badOutside(Bounds::village, 0, 3, 0, "way", 0, 1, 0);
        BOUNDS.badOutside(Bounds::village, 0, 2, 1, "way", 0, 1, 0);
        BOUNDS.badOutside(Bounds::village, 0, 1, 2, "way", 0, 1, 0);
        BOUNDS.badOutside(Bounds::village, 10, 13, 2, "way", 0, 1, 0);
        BOUNDS.badOutside(told("man 0 0;man 0 0;"), 0, -1, 0, "way", 0, 1, 0);
    }

    @Says(promise = 22, words = "STATE: it is his")
    static void aWayToHimself() {
        for (int what : new int[] {0, 1, 10, 11, 12, 13}) {
            BOUNDS.refuses(Bounds::village, STATE, "way", 0, 0, what);
            BOUNDS.refuses(told("man 0 0;soap 0 0;"), STATE, "way", 0, 0, what);
        }
        BOUNDS.refuses(Bounds::village, BAD, "way", 0, 0, 14);
        BOUNDS.refuses(Bounds::village, BAD, "way", 0, 0, 2);
    }

    @Says(promise = 22, words = "NONE: there are not so many")
    static void notSoManyHands() {
        BOUNDS.refuses(Bounds::village, NONE, "way", 0, 1, 12);
        BOUNDS.refuses(Bounds::village, NONE, "way", 0, 1, 13);
        BOUNDS.refuses(Bounds::village, NONE, "way", 0, 2, 11);
        BOUNDS.refuses(WaysBoundsTest::throughAll, NONE, "way", 0, 3, 13);
    }

    // ---- promise 23

    @Says(promise = 23, words = "The fewest STONES, PAID one behind another from now on by who owes to whom he owes, by which a DEBT is 0")
    static void noneToFiveStones() {
        int[] owed = {0, 1, 18, 19, 35, 36, 51, 52, 66, 67, 80};
        int[] stones = {0, 1, 1, 2, 2, 3, 3, 4, 4, 5, 5};
        for (int i = 0; i < owed.length; i++) {
            int much = owed[i];
            BOUNDS.tells(() -> fiveStones(much), stones[i], "fewest", 0, 0);
        }
    }

    @Says(promise = 23, words = "by who owes to whom he owes")
    static void onlyHisOwnStones() {
        // what the other one has is no help, nor what a third one has
        BOUNDS.tells(told("man 5 0;man 5 0;man 5 0;soap 99 1;soap 99 2;debt 0 1 1;"), NONE, "fewest", 0, 0);
        BOUNDS.tells(told("man 5 0;man 5 0;man 5 0;soap 99 1;soap 99 2;debt 0 1 0;"), 0, "fewest", 0, 0);
        BOUNDS.tells(told("man 5 0;man 5 0;debt 0 1 1;"), NONE, "fewest", 0, 0);
    }

    @Says(promise = 23, words = "by which a DEBT is 0")
    static void aPebbleClearsNothing() {
        BOUNDS.tells(told("man 5 0;man 5 0;soap 6 0;debt 0 1 5;"), 1, "fewest", 0, 0);
        BOUNDS.tells(told("man 5 0;man 5 0;soap 6 0;debt 0 1 6;"), NONE, "fewest", 0, 0);
        BOUNDS.tells(told("man 5 0;man 5 0;soap 5 0;debt 0 1 1;"), NONE, "fewest", 0, 0);
        // the second comes as 5 or 4, by which goes first
        BOUNDS.tells(told("man 5 0;man 5 0;soap 7 0;soap 7 0;debt 0 1 11;"), 2, "fewest", 0, 0);
        BOUNDS.tells(told("man 5 0;man 5 0;soap 7 0;soap 6 0;debt 0 1 10;"), 2, "fewest", 0, 0);
        BOUNDS.tells(told("man 5 0;man 5 0;soap 7 0;soap 6 0;debt 0 1 10;"), 1, "fewest", 0, 10);
    }

    @Says(promise = 23, words = "by which a DEBT is 0")
    static void anEarlierDebtOfTheSameTwo() {
        // a stone goes to the first, what is more is lost
        BOUNDS.tells(told("man 5 0;man 5 0;soap 40 0;soap 30 0;debt 0 1 1;debt 0 1 26;"), 2, "fewest", 1, 0);
        BOUNDS.tells(told("man 5 0;man 5 0;soap 40 0;soap 30 0;debt 0 1 1;debt 0 1 36;"), NONE, "fewest", 1, 0);
        BOUNDS.tells(told("man 5 0;man 5 0;soap 40 0;soap 30 0;debt 0 1 0;debt 0 1 37;"), 1, "fewest", 1, 0);
    }

    @Says(promise = 23, words = "10 and i (0 to 4): the i-th STONE of the first such row by numbers")
    static void theFirstRowByNumbers() {
        for (int i = 0; i < 5; i++) {
            BOUNDS.tells(() -> fiveStones(80), i, "fewest", 0, 10 + i);
        }
        // slate that goes second comes as 28, first as 33; soap as 35 and 37
        BOUNDS.tells(told("man 5 0;man 5 0;soap 40 0;slate 40 0;debt 0 1 64;"), 0, "fewest", 0, 10);
        BOUNDS.tells(told("man 5 0;man 5 0;soap 40 0;slate 40 0;debt 0 1 65;"), 0, "fewest", 0, 10);
        BOUNDS.tells(told("man 5 0;man 5 0;soap 40 0;slate 40 0;debt 0 1 66;"), 1, "fewest", 0, 10);
        BOUNDS.tells(told("man 5 0;man 5 0;soap 40 0;slate 40 0;debt 0 1 66;"), 0, "fewest", 0, 11);
        BOUNDS.tells(told("man 5 0;man 5 0;soap 40 0;slate 40 0;debt 0 1 68;"), 1, "fewest", 0, 10);
        BOUNDS.tells(told("man 5 0;man 5 0;soap 40 0;slate 40 0;debt 0 1 69;"), NONE, "fewest", 0, 10);
    }

    @Says(promise = 23, words = "BAD")
    static void noSuchFewest() {
        BOUNDS.badOutside(Bounds::village, 0, 2, 0, "fewest", 0, 0);
        BOUNDS.badOutside(Bounds::village, 0, 0, 1, "fewest", 0, 0);
        BOUNDS.badOutside(Bounds::village, 10, 14, 1, "fewest", 0, 0);
        BOUNDS.badOutside(told("man 0 0;man 0 0;soap 9 0;"), 0, -1, 0, "fewest", 0, 0);
    }

    @Says(promise = 23, words = "NONE: by none")
    static void byNoStones() {
        for (int what : new int[] {0, 10, 11, 12, 13, 14}) {
            BOUNDS.refuses(() -> fiveStones(81), NONE, "fewest", 0, what);
        }
        BOUNDS.refuses(() -> fiveStones(81), BAD, "fewest", 0, 15);
        BOUNDS.refuses(() -> fiveStones(81), BAD, "fewest", 0, 1);
    }

    @Says(promise = 23, words = "there are not so many")
    static void notSoManyStones() {
        BOUNDS.refuses(() -> fiveStones(0), NONE, "fewest", 0, 10);
        BOUNDS.refuses(() -> fiveStones(18), NONE, "fewest", 0, 11);
        BOUNDS.refuses(() -> fiveStones(66), NONE, "fewest", 0, 14);
    }

    // ---- promise 24

    private static TepidPurse fourDebts(int first, int last) {
        return BOUNDS.told("man 5 0;man 5 0;man 5 0;soap 40 0;debt 2 1 " + first + ";debt 1 2 20;debt 0 1 30;debt 2 0 " + last + ";");
    }

    private static void order(Supplier<TepidPurse> upToThere, int... debts) {
        for (int i = 0; i < debts.length; i++) {
            BOUNDS.tells(upToThere, debts[i], "settle", 10 + i);
        }
        BOUNDS.refuses(upToThere, BAD, "settle", 10 + debts.length);
    }

    @Says(promise = 24, words = "the most that are 0 then of those that are not 0 now (what 0)")
    static void noDebtsToSettle() {
        BOUNDS.tells(TepidPurse::new, 0, "settle", 0);
        BOUNDS.tells(told("man 0 0;man 0 0;soap 99 0;"), 0, "settle", 0);
        BOUNDS.tells(told("man 5 0;man 5 0;soap 99 0;debt 0 1 0;debt 1 0 0;"), 0, "settle", 0);
        BOUNDS.tells(told("man 5 0;man 5 0;debt 0 1 1;debt 1 0 1;"), 0, "settle", 0);
    }

    @Says(promise = 24, words = "the most that are 0 then of those that are not 0 now (what 0)")
    static void allDebtsToSettle() {
        // 40 37 35 33 31 29 27 from hand to hand: 0 to 1, 1 to 2, then 2 to 0 or 2 to 1
        BOUNDS.tells(() -> fourDebts(33, 99), 3, "settle", 0);
        BOUNDS.tells(() -> fourDebts(34, 33), 3, "settle", 0);
        BOUNDS.tells(() -> fourDebts(34, 34), 2, "settle", 0);
        BOUNDS.tells(() -> fourDebts(0, 0), 2, "settle", 0);
    }

    @Says(promise = 24, words = "10 and i: the i-th DEBT of the first such order by numbers")
    static void theFirstOrderByNumbers() {
        order(() -> fourDebts(33, 99), 2, 1, 0, 3);
        order(() -> fourDebts(34, 33), 0, 2, 1, 3);
        order(() -> fourDebts(34, 34), 0, 2, 1, 3);
        order(told("man 5 0;man 5 0;debt 0 1 1;debt 1 0 1;"), 0, 1);
        order(told("man 5 0;man 5 0;debt 0 1 0;"), 0);
    }

    @Says(promise = 24, words = "each cleared in its turn by fewest() (as all is by then)")
    static void asAllIsByThen() {
        // one stone for both: what was given for the first is there no more for the second
        BOUNDS.tells(told("man 5 0;man 5 0;man 5 0;soap 40 0;debt 0 1 37;debt 0 2 37;"), 1, "settle", 0);
        // of two the second comes as 35, a minute later
        BOUNDS.tells(told("man 5 0;man 5 0;man 5 0;soap 40 0;soap 40 0;debt 0 1 37;debt 0 2 35;"), 2, "settle", 0);
        BOUNDS.tells(told("man 5 0;man 5 0;man 5 0;soap 40 0;soap 40 0;debt 0 1 37;debt 0 2 36;"), 1, "settle", 0);
        order(told("man 5 0;man 5 0;man 5 0;soap 40 0;soap 40 0;debt 0 1 37;debt 0 2 35;"), 0, 1);
        BOUNDS.tells(told("man 5 0;man 5 0;man 5 0;soap 40 0;soap 40 0;debt 0 1 36;debt 0 2 36;"), 1, "settle", 0);
        // by that time a pebble
        BOUNDS.tells(told("man 5 0;man 5 0;man 5 0;soap 6 0;soap 6 0;debt 0 1 1;debt 0 2 1;"), 1, "settle", 0);
        BOUNDS.tells(told("man 5 0;man 5 0;man 5 0;soap 6 0;soap 7 0;debt 0 1 1;debt 0 2 1;"), 2, "settle", 0);
        // fewest() gives the first by numbers, though the other one would do and be the better choice
        BOUNDS.tells(told("man 5 0;man 5 0;man 5 0;soap 7 0;soap 6 0;debt 0 1 1;debt 0 2 1;"), 1, "settle", 0);
    }

    @Says(promise = 24, words = "those that can not be passed over")
    static void whatCanNotBeClearedIsPassedOver() {
        // no stone is given for a debt that it does not clear
        BOUNDS.tells(told("man 5 0;man 5 0;man 5 0;soap 40 0;debt 0 1 38;debt 0 2 37;"), 1, "settle", 0);
        order(told("man 5 0;man 5 0;man 5 0;soap 40 0;debt 0 1 38;debt 0 2 37;"), 0, 1);
        BOUNDS.tells(told("man 5 0;man 5 0;man 5 0;soap 40 0;debt 0 1 38;debt 0 2 38;"), 0, "settle", 0);
    }

    @Says(promise = 24, words = "BAD")
    static void noSuchOrder() {
        BOUNDS.badOutside(TepidPurse::new, 0, 0, 0, "settle", 0);
        BOUNDS.badOutside(Bounds::village, 0, 0, 0, "settle", 0);
        BOUNDS.badOutside(TepidPurse::new, 10, 9, 0, "settle", 0);
        BOUNDS.badOutside(Bounds::village, 10, 12, 0, "settle", 0);
        BOUNDS.badOutside(() -> fourDebts(1, 1), 10, 13, 0, "settle", 0);
    }

    // ---- promise 25

    @Says(promise = 25, words = "The least WOOL (0 to 5) of whose it is by which a STONE is WARM behind n minutes (0 to 60)")
    static void theLeastWoolAndTheMost() {
        // plain 20 in 0 to 5: 13 8 5 3, 14 10 7 5 3, 15 11 8 6 4, 16 13 11 9 7 5 4
        Supplier<TepidPurse> plain = told("man 5 0;plain 20 0;");
        int[] least = {0, 0, 0, 0, 1, 3};
        for (int n = 0; n < least.length; n++) {
            BOUNDS.tells(plain, least[n], "wool", 0, n);
        }
        // in 5 one less each from 18 on: 5 behind 14
        BOUNDS.tells(plain, 5, "wool", 0, 14);
        BOUNDS.tells(plain, NONE, "wool", 0, 15);
        BOUNDS.tells(told("man 5 0;soap 5 0;"), 0, "wool", 0, 0);
        BOUNDS.tells(told("man 5 0;soap 5 0;"), NONE, "wool", 0, 1);
        // slate in 5: 16 13 11 9 7 5 4
        BOUNDS.tells(told("man 0 0;slate 20 0;"), 5, "wool", 0, 6);
        BOUNDS.tells(told("man 0 0;slate 20 0;"), NONE, "wool", 0, 7);
        // the longest of all: soap of 99 is 5 behind 39, in 2 or more
        BOUNDS.tells(told("man 0 0;soap 99 0;"), 2, "wool", 0, 39);
        BOUNDS.tells(told("man 0 0;soap 99 0;"), NONE, "wool", 0, 40);
        BOUNDS.tells(told("man 0 0;soap 99 0;"), NONE, "wool", 0, 60);
    }

    @Says(promise = 25, words = "BAD")
    static void noSuchWool() {
        BOUNDS.badOutside(Bounds::village, 0, 3, 0, "wool", 0, 0);
        BOUNDS.badOutside(Bounds::village, 0, 60, 1, "wool", 0, 0);
        BOUNDS.badOutside(told("man 0 0;"), 0, -1, 0, "wool", 0, 0);
    }

    @Says(promise = 25, words = "NONE: by none")
    static void byNoWool() {
        for (int n : new int[] {0, 1, 60}) {
            BOUNDS.refuses(told("man 5 0;soap 4 0;"), NONE, "wool", 0, n);
            BOUNDS.refuses(told("man 5 0;soap 0 0;"), NONE, "wool", 0, n);
        }
        BOUNDS.refuses(told("man 5 0;soap 0 0;"), BAD, "wool", 0, 61);
    }

    // ---- promise 26

    @Says(promise = 26, words = "The fewest HEATINGS in n minutes (0 to 60) by which a STONE is WARM now and behind each of them")
    static void noWalkToSixty() {
        BOUNDS.tells(told("man 5 0;soap 5 0;oven 0 5;"), 0, "walks", 0, 0);
        BOUNDS.tells(told("man 5 0;soap 5 0;oven 0 5;"), 1, "walks", 0, 1);
        BOUNDS.tells(told("man 5 0;soap 5 0;oven 0 5;"), 59, "walks", 0, 59);
        BOUNDS.tells(told("man 5 0;soap 5 0;oven 0 5;"), 60, "walks", 0, 60);
        // 5 behind 39 of itself
        BOUNDS.tells(told("man 5 0;soap 99 0;oven 0 5;"), 0, "walks", 0, 39);
        BOUNDS.tells(told("man 5 0;soap 99 0;oven 0 5;"), 1, "walks", 0, 40);
        // it goes behind 39 at the latest: 99 behind 40
        BOUNDS.tells(told("man 5 0;soap 99 0;oven 0 99;"), 1, "walks", 0, 60);
    }

    @Says(promise = 26, words = "one may begin whenever none goes on")
    static void oneWalkBehindAnother() {
        // 7 6 5 4 of itself
        BOUNDS.tells(told("man 5 0;soap 7 0;oven 1 20;"), 0, "walks", 0, 2);
        BOUNDS.tells(told("man 5 0;soap 7 0;oven 1 20;"), 1, "walks", 0, 3);
        // 40 23 13 7 is a pebble behind 4; begun at 1 and back behind 6 with 20, begun at 6 and back behind 11
        BOUNDS.tells(told("man 0 3;slate 40 0;oven 1 60;"), 1, "walks", 0, 8);
        BOUNDS.tells(told("man 0 3;slate 40 0;oven 1 60;"), 2, "walks", 0, 9);
        BOUNDS.tells(told("man 0 3;slate 40 0;oven 1 60;"), 2, "walks", 0, 13);
        BOUNDS.tells(told("man 0 3;slate 40 0;oven 1 60;"), 3, "walks", 0, 14);
    }

    @Says(promise = 26, words = "one may begin whenever none goes on")
    static void noneBeginsWhileOneGoesOn() {
        // begun at 2: 8 7 6 5, in the oven 10, 9 8 7 back behind 9, 5 behind 11; begun at 9 again a pebble behind 12
        BOUNDS.tells(told("man 5 0;soap 10 0;oven 3 10;"), 0, "walks", 0, 5);
        BOUNDS.tells(told("man 5 0;soap 10 0;oven 3 10;"), 1, "walks", 0, 6);
        BOUNDS.tells(told("man 5 0;soap 10 0;oven 3 10;"), 1, "walks", 0, 11);
        BOUNDS.tells(told("man 5 0;soap 10 0;oven 3 10;"), NONE, "walks", 0, 12);
    }

    @Says(promise = 26, words = "WARM now and behind each of them")
    static void whatWasAskedBeforeIsForgotten() {
        TepidPurse x = BOUNDS.told("man 5 0;soap 99 0;soap 4 0;soap 6 0;oven 0 99;");
        for (int n = 60; n >= 0; n -= 20) {
            BOUNDS.answers(x, n > 39 ? 1 : 0, "walks", 0, n);
            BOUNDS.answers(x, NONE, "walks", 1, n);
        }
        BOUNDS.answers(x, 1, "walks", 0, 60);
        x.set(2, 9);
        for (int n = 2; n <= 60; n++) {
            BOUNDS.answers(x, NONE, "walks", 2, n);
        }
        BOUNDS.answers(x, 0, "walks", 2, 1);
    }

    @Says(promise = 26, words = "the last one may go on beyond")
    static void theLastWalkGoesOn() {
        // 14 13 .. 5 behind nine minutes, HEAT behind ten, a pebble on the way back
        Supplier<TepidPurse> far = told("man 5 0;soap 14 0;oven 9 5;");
        BOUNDS.tells(far, 0, "walks", 0, 9);
        BOUNDS.tells(far, 1, "walks", 0, 10);
        BOUNDS.tells(far, NONE, "walks", 0, 11);
        // 6 5, in the oven 20 behind 2, back behind 3
        BOUNDS.tells(told("man 5 0;soap 6 0;oven 1 20;"), 1, "walks", 0, 2);
    }

    @Says(promise = 26, words = "BAD")
    static void noSuchWalks() {
        BOUNDS.badOutside(Bounds::village, 0, 3, 0, "walks", 0, 0);
        BOUNDS.badOutside(Bounds::village, 0, 60, 1, "walks", 0, 0);
        BOUNDS.badOutside(told("man 0 0;"), 0, -1, 0, "walks", 0, 0);
    }

    @Says(promise = 26, words = "NONE: by none")
    static void byNoWalks() {
        for (int n : new int[] {0, 1, 60}) {
            BOUNDS.refuses(told("man 5 0;soap 4 0;oven 0 99;"), NONE, "walks", 0, n);
        }
        // a pebble on the way there, a pebble on the way back
        BOUNDS.refuses(told("man 5 0;soap 5 0;oven 1 99;"), NONE, "walks", 0, 1);
        BOUNDS.refuses(told("man 5 0;soap 6 0;oven 1 5;"), NONE, "walks", 0, 3);
        BOUNDS.refuses(told("man 5 0;soap 4 0;oven 0 99;"), BAD, "walks", 0, 61);
    }

    // ---- promise 27

    private static Supplier<TepidPurse> prices(String stone, int... each) {
        StringBuilder text = new StringBuilder("man 5 0;" + stone + " 0;wind 10;");
        for (int t = 0; t < 6; t++) {
            text.append("price ").append(t).append(' ').append(each[t]).append(';');
        }
        return told(text.toString());
    }

    private static void buys(Supplier<TepidPurse> upToThere, int minute, int much) {
        BOUNDS.tells(upToThere, minute, "buys", 0, 0);
        BOUNDS.tells(upToThere, much, "buys", 0, 1);
    }

    @Says(promise = 27, words = "The minute (0 to 5) from now on at which a STONE buys most")
    static void theFirstMinuteAndTheLast() {
        // 40 37 35 33 31 29, without wind however it blows
        buys(prices("soap 40", 1, 1, 1, 1, 1, 1), 0, 40);
        buys(prices("soap 40", 9, 9, 9, 9, 9, 1), 5, 29);
        buys(prices("soap 40", 9, 9, 9, 9, 9, 7), 0, 4);
        buys(prices("soap 40", 9, 9, 9, 9, 9, 5), 5, 5);
        buys(() -> Bounds.late("man 5 0;soap 40 0;price 0 9;", 999), 1, 37);
    }

    @Says(promise = 27, words = "(WARMTH then by PRICE, down)")
    static void takenDown() {
        buys(prices("soap 8", 9, 9, 9, 9, 9, 9), 0, 0);
        buys(prices("soap 9", 9, 9, 9, 9, 9, 9), 0, 1);
        buys(prices("soap 99", 9, 9, 9, 9, 9, 9), 0, 11);
    }

    @Says(promise = 27, words = "of several the first (what 0), how much (1)")
    static void ofSeveralTheFirst() {
        buys(prices("soap 0", 1, 1, 1, 1, 1, 1), 0, 0);
        // 6 by 6, 5 by 5, 4 by 4: 1 each
        buys(prices("soap 6", 6, 5, 4, 3, 2, 1), 0, 1);
        buys(prices("soap 6", 7, 5, 4, 3, 2, 1), 1, 1);
    }

    @Says(promise = 27, words = "BAD")
    static void noSuchBuying() {
        BOUNDS.badOutside(Bounds::village, 0, 3, 0, "buys", 0, 0);
        BOUNDS.badOutside(Bounds::village, 0, 1, 1, "buys", 0, 0);
        BOUNDS.badOutside(told("man 0 0;"), 0, -1, 0, "buys", 0, 0);
    }

    public static void main(String[] args) {
        BOUNDS.run(22, 27);
    }
}
