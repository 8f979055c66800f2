/** The boundary cases of RATE and WARM, and of promises 6 to 16: what there is, what is changed. */
public final class StateBoundsTest {
    private static final Bounds BOUNDS = new Bounds(StateBoundsTest.class);
    private static final int BAD = TepidPurse.BAD;
    private static final int STATE = TepidPurse.STATE;
    private static final int FULL = TepidPurse.FULL;

    /** As many of each as there may be. */
    private static TepidPurse crowd() {
        return BOUNDS.told("man 0 0;man 1 3;man 4 6;man 5 9;plain 99 0;flint 5 1;slate 4 2;soap 0 3;soap 50 3;"
            + "debt 0 1 99;debt 1 2 0;debt 2 3 5;debt 3 0 1;");
    }

    // ---- terms

    @Says(promise = 0, words = "its BASE less WOOL, 1 at least")
    static void rateIsOneAtLeast() {
        TepidPurse x = BOUNDS.told("man 0 0;plain 9 0;flint 9 0;slate 9 0;soap 9 0;");
        int[][] rates = {{6, 5, 4, 3, 2, 1}, {4, 3, 2, 1, 1, 1}, {8, 7, 6, 5, 4, 3}, {3, 2, 1, 1, 1, 1}};
        for (int wool = 0; wool <= 5; wool++) {
            x.dress(0, 0, wool);
            for (int kind = 0; kind < 4; kind++) {
                BOUNDS.answers(x, rates[kind][wool], "stone", kind, 3);
            }
        }
    }

    @Says(promise = 0, words = "plain 6, flint 2 less than plain, slate 2 more than plain, soap 1 less than flint")
    static void basesOfKinds() {
        TepidPurse x = BOUNDS.told("man 0 0;soap 9 0;slate 9 0;flint 9 0;plain 9 0;");
        int[] bases = {3, 8, 4, 6};
        for (int s = 0; s < 4; s++) {
            BOUNDS.answers(x, bases[s], "stone", s, 3);
        }
    }

    @Says(promise = 0, words = "each of a KIND (0 plain, 1 flint, 2 slate, 3 soap)")
    static void kindsFromFirstToLast() {
        String[] kinds = {"plain", "flint", "slate", "soap"};
        for (int kind = 0; kind < kinds.length; kind++) {
            BOUNDS.answers(BOUNDS.told("man 0 0;" + kinds[kind] + " 9 0;"), kind, "stone", 0, 0);
        }
    }

    @Says(promise = 0, words = "there is no such ONE, STONE, DEBT, IMAGE, SHEET")
    static void justBehindTheLast() {
        BOUNDS.refuses(Bounds::village, BAD, "one", 3, 0);
        BOUNDS.refuses(Bounds::village, BAD, "stone", 4, 0);
        BOUNDS.refuses(Bounds::village, BAD, "debt", 3, 0);
        BOUNDS.refuses(Bounds::village, BAD, "keep", 2);
        BOUNDS.refuses(Bounds::village, BAD, "lay", 4, 0, 0);
    }

    @Says(promise = 0, words = "the first that fits")
    static void badAheadOfAllElse() {
        BOUNDS.refuses(() -> Bounds.late(Check.VILLAGE, 999), STATE, "pay", 0, 0);
        BOUNDS.refuses(() -> Bounds.late(Check.VILLAGE, 999), BAD, "pay", 0, 3);
        BOUNDS.refuses(() -> Bounds.late(Check.VILLAGE, 999), FULL, "pay", 0, 1);
        BOUNDS.refuses(StateBoundsTest::crowd, STATE, "halve", 3);
        BOUNDS.refuses(TepidPurse::new, BAD, "drift", 0, 0, 0);
        BOUNDS.refuses(TepidPurse::new, BAD, "back", 2);
    }

    @Says(promise = 0, words = "a STONE with WARMTH of 5 or more; else it is a pebble")
    static void warmFromFiveOn() {
        int[] warmths = {0, 4, 5, 99};
        int[] warm = {0, 0, 1, 1};
        for (int i = 0; i < warmths.length; i++) {
            TepidPurse x = BOUNDS.told("man 0 0;flint " + warmths[i] + " 0;");
            BOUNDS.answers(x, warm[i], "stone", 0, 4);
            BOUNDS.answers(x, warm[i], "count", 4);
            BOUNDS.answers(x, warm[i], "go", 0);
        }
    }

    // ---- promise 6

    @Says(promise = 6, words = "0 PEOPLE, 1 STONES, 2 DEBTS, 3 PLACE of THE OVEN, 4 HEAT, 5 WIND, 6 MINUTE")
    static void rulesFromFirstToLast() {
        int[] empty = {0, 0, 0, 0, 50, 2, 0};
        int[] crowded = {4, 5, 4, 0, 50, 2, 0};
        for (int what = 0; what <= 6; what++) {
            BOUNDS.tells(TepidPurse::new, empty[what], "rule", what);
            BOUNDS.tells(StateBoundsTest::crowd, crowded[what], "rule", what);
        }
        BOUNDS.tells(() -> Bounds.late("man 0 0;", 999), 999, "rule", 6);
    }

    @Says(promise = 6, words = "BAD")
    static void noSuchRule() {
        BOUNDS.badOutside(TepidPurse::new, 0, 6, 0, "rule", 0);
        BOUNDS.badOutside(Bounds::village, 0, 6, 0, "rule", 0);
    }

    // ---- promise 7

    @Says(promise = 7, words = "Of a ONE: 0 WOOL, 1 PLACE, 2 his STONES (bits), 3 their WARMTH, summed")
    static void theFirstAndTheLastOne() {
        int[] first = {0, 0, 1, 99};
        int[] last = {5, 9, 24, 50};
        for (int what = 0; what <= 3; what++) {
            BOUNDS.tells(StateBoundsTest::crowd, first[what], "one", 0, what);
            BOUNDS.tells(StateBoundsTest::crowd, last[what], "one", 3, what);
        }
    }

    @Says(promise = 7, words = "his STONES (bits), 3 their WARMTH, summed")
    static void noneOrAllStones() {
        TepidPurse x = BOUNDS.told("man 0 0;man 0 0;soap 99 1;soap 99 1;soap 99 1;soap 99 1;soap 99 1;");
        BOUNDS.answers(x, 0, "one", 0, 2);
        BOUNDS.answers(x, 0, "one", 0, 3);
        BOUNDS.answers(x, 31, "one", 1, 2);
        BOUNDS.answers(x, 495, "one", 1, 3);
    }

    @Says(promise = 7, words = "BAD")
    static void noSuchOne() {
        BOUNDS.badOutside(TepidPurse::new, 0, -1, 0, "one", 0, 0);
        BOUNDS.badOutside(Bounds::village, 0, 2, 0, "one", 0, 0);
        BOUNDS.badOutside(StateBoundsTest::crowd, 0, 3, 0, "one", 0, 3);
        BOUNDS.badOutside(Bounds::village, 0, 3, 1, "one", 0, 0);
    }

    // ---- promise 8

    @Says(promise = 8, words = "Of a STONE: 0 KIND, 1 WARMTH, 2 whose it is, 3 RATE, 4 whether it is WARM (1, 0)")
    static void theFirstAndTheLastStone() {
        int[][] due = {{0, 99, 0, 6, 1}, {1, 5, 1, 3, 1}, {2, 4, 2, 4, 0}, {3, 0, 3, 1, 0}, {3, 50, 3, 1, 1}};
        for (int s = 0; s < 5; s++) {
            TepidPurse x = crowd();
            for (int what = 0; what <= 4; what++) {
                BOUNDS.answers(x, due[s][what], "stone", s, what);
            }
        }
    }

    @Says(promise = 8, words = "BAD")
    static void noSuchStone() {
        BOUNDS.badOutside(() -> BOUNDS.told("man 0 0;"), 0, -1, 0, "stone", 0, 0);
        BOUNDS.badOutside(Bounds::village, 0, 3, 0, "stone", 0, 0);
        BOUNDS.badOutside(StateBoundsTest::crowd, 0, 4, 0, "stone", 0, 4);
        BOUNDS.badOutside(Bounds::village, 0, 4, 1, "stone", 0, 0);
    }

    // ---- promise 9

    @Says(promise = 9, words = "Of a DEBT: 0 who owes, 1 whom, 2 how much still")
    static void theFirstAndTheLastDebt() {
        int[][] due = {{0, 1, 99}, {1, 2, 0}, {2, 3, 5}, {3, 0, 1}};
        for (int d = 0; d < 4; d++) {
            TepidPurse x = crowd();
            for (int what = 0; what <= 2; what++) {
                BOUNDS.answers(x, due[d][what], "debt", d, what);
            }
        }
    }

    @Says(promise = 9, words = "BAD")
    static void noSuchDebt() {
        BOUNDS.badOutside(() -> BOUNDS.told("man 0 0;"), 0, -1, 0, "debt", 0, 0);
        BOUNDS.badOutside(Bounds::village, 0, 2, 0, "debt", 0, 0);
        BOUNDS.badOutside(StateBoundsTest::crowd, 0, 3, 0, "debt", 0, 2);
        BOUNDS.badOutside(Bounds::village, 0, 2, 1, "debt", 0, 0);
    }

    // ---- promise 10

    @Says(promise = 10, words = "PRICE of a minute (0 to 5)")
    static void theFirstAndTheLastPrice() {
        BOUNDS.tells(() -> BOUNDS.told("price 0 9;price 5 8;"), 9, "price", 0);
        BOUNDS.tells(() -> BOUNDS.told("price 0 9;price 5 8;"), 8, "price", 5);
    }

    @Says(promise = 10, words = "BAD")
    static void noSuchMinute() {
        BOUNDS.badOutside(TepidPurse::new, 0, 5, 0, "price", 0);
    }

    // ---- promise 11

    @Says(promise = 11, words = "WOOL (what 0), PLACE (1) of a ONE becomes v: what it was")
    static void leastAndMostWool() {
        TepidPurse x = crowd();
        BOUNDS.answers(x, 0, "dress", 0, 0, 5);
        BOUNDS.answers(x, 5, "dress", 0, 0, 0);
        BOUNDS.answers(x, 0, "one", 0, 0);
        BOUNDS.answers(x, 5, "dress", 3, 0, 5);
        BOUNDS.answers(x, 0, "dress", 0, 1, 9);
        BOUNDS.answers(x, 9, "dress", 0, 1, 0);
        BOUNDS.answers(x, 0, "one", 0, 1);
        BOUNDS.answers(x, 9, "dress", 3, 1, 9);
    }

    @Says(promise = 11, words = "BAD")
    static void noSuchDress() {
        BOUNDS.badOutside(Bounds::village, 0, 5, 2, "dress", 0, 0, 0);
        BOUNDS.badOutside(Bounds::village, 0, 9, 2, "dress", 0, 1, 0);
        BOUNDS.badOutside(Bounds::village, 0, 1, 1, "dress", 0, 0, 4);
        BOUNDS.badOutside(Bounds::village, 0, 2, 0, "dress", 0, 0, 4);
        BOUNDS.badOutside(StateBoundsTest::crowd, 0, 3, 0, "dress", 0, 1, 4);
    }

    // ---- promise 12

    @Says(promise = 12, words = "WARMTH (what 1) of a STONE, its KIND (0) becomes v: what it was")
    static void leastAndMostWarmth() {
        TepidPurse x = crowd();
        BOUNDS.answers(x, 99, "warm", 0, 1, 0);
        BOUNDS.answers(x, 0, "warm", 0, 1, 99);
        BOUNDS.answers(x, 99, "stone", 0, 1);
        BOUNDS.answers(x, 50, "warm", 4, 1, 51);
        BOUNDS.answers(x, 0, "warm", 0, 0, 3);
        BOUNDS.answers(x, 3, "warm", 0, 0, 0);
        BOUNDS.answers(x, 0, "stone", 0, 0);
        BOUNDS.answers(x, 3, "warm", 4, 0, 2);
    }

    @Says(promise = 12, words = "BAD")
    static void noSuchWarmth() {
        BOUNDS.badOutside(Bounds::village, 0, 99, 2, "warm", 0, 1, 0);
        BOUNDS.badOutside(Bounds::village, 0, 3, 2, "warm", 0, 0, 0);
        BOUNDS.badOutside(Bounds::village, 0, 1, 1, "warm", 0, 0, 2);
        BOUNDS.badOutside(Bounds::village, 0, 3, 0, "warm", 0, 0, 2);
        BOUNDS.badOutside(StateBoundsTest::crowd, 0, 4, 0, "warm", 0, 1, 2);
    }

    // ---- promise 13

    @Says(promise = 13, words = "WIND (what 0), HEAT (1), PLACE of THE OVEN (2) becomes v: what it was")
    static void leastAndMostOfARule() {
        TepidPurse x = new TepidPurse();
        BOUNDS.answers(x, 2, "set", 0, 0);
        BOUNDS.answers(x, 0, "set", 0, 10);
        BOUNDS.answers(x, 10, "rule", 5);
        BOUNDS.answers(x, 50, "set", 1, 5);
        BOUNDS.answers(x, 5, "set", 1, 99);
        BOUNDS.answers(x, 99, "rule", 4);
        BOUNDS.answers(x, 0, "set", 2, 9);
        BOUNDS.answers(x, 9, "rule", 3);
        BOUNDS.answers(x, 9, "set", 2, 0);
    }

    @Says(promise = 13, words = "BAD")
    static void noSuchSetting() {
        BOUNDS.badOutside(Bounds::village, 0, 10, 1, "set", 0, 0);
        BOUNDS.badOutside(Bounds::village, 5, 99, 1, "set", 1, 5);
        BOUNDS.badOutside(Bounds::village, 0, 9, 1, "set", 2, 0);
        BOUNDS.badOutside(Bounds::village, 0, 2, 0, "set", 0, 7);
    }

    // ---- promise 14

    @Says(promise = 14, words = "PRICE of a minute becomes v: what it was")
    static void leastAndMostPrice() {
        TepidPurse x = new TepidPurse();
        BOUNDS.answers(x, 1, "ask", 0, 9);
        BOUNDS.answers(x, 9, "ask", 0, 1);
        BOUNDS.answers(x, 1, "price", 0);
        BOUNDS.answers(x, 1, "ask", 5, 9);
        BOUNDS.answers(x, 9, "price", 5);
        BOUNDS.answers(x, 1, "price", 4);
    }

    @Says(promise = 14, words = "BAD")
    static void noSuchPrice() {
        BOUNDS.badOutside(TepidPurse::new, 0, 5, 0, "ask", 0, 2);
        BOUNDS.badOutside(TepidPurse::new, 1, 9, 1, "ask", 0, 2);
        BOUNDS.badOutside(Bounds::village, 1, 9, 1, "ask", 5, 2);
    }

    // ---- promise 15

    @Says(promise = 15, words = "A DEBT becomes v (0 to 99): what it was")
    static void leastAndMostDebt() {
        TepidPurse x = crowd();
        BOUNDS.answers(x, 99, "owe", 0, 0);
        BOUNDS.answers(x, 0, "owe", 0, 99);
        BOUNDS.answers(x, 99, "debt", 0, 2);
        BOUNDS.answers(x, 1, "owe", 3, 99);
        BOUNDS.answers(x, 99, "debt", 3, 2);
    }

    @Says(promise = 15, words = "BAD")
    static void noSuchOwing() {
        BOUNDS.badOutside(Bounds::village, 0, 99, 1, "owe", 0, 0);
        BOUNDS.badOutside(Bounds::village, 0, 2, 0, "owe", 0, 7);
        BOUNDS.badOutside(StateBoundsTest::crowd, 0, 3, 0, "owe", 0, 7);
        BOUNDS.badOutside(() -> BOUNDS.told("man 0 0;man 0 0;"), 0, -1, 0, "owe", 0, 7);
    }

    // ---- promise 16

    @Says(promise = 16, words = "it has half of its WARMTH (down) less 1 (0 at least)")
    static void halvesOfTheLeastAndTheMost() {
        int[] before = {5, 6, 7, 98, 99};
        int[] behind = {1, 2, 2, 48, 48};
        for (int i = 0; i < before.length; i++) {
            TepidPurse x = BOUNDS.told("man 0 0;flint " + before[i] + " 0;");
            BOUNDS.answers(x, 2, "halve", 0);
            BOUNDS.answers(x, behind[i], "stone", 0, 1);
            BOUNDS.answers(x, behind[i], "stone", 1, 1);
        }
    }

    @Says(promise = 16, words = "there is one more just so, behind all: how many there are")
    static void oneMoreBehindAll() {
        TepidPurse x = BOUNDS.told("man 0 0;man 2 3;slate 60 1;plain 9 0;soap 7 0;");
        BOUNDS.answers(x, 4, "halve", 0);
        int[] justSo = {2, 29, 1, 6, 1};
        for (int what = 0; what <= 4; what++) {
            BOUNDS.answers(x, justSo[what], "stone", 0, what);
            BOUNDS.answers(x, justSo[what], "stone", 3, what);
        }
        BOUNDS.answers(x, 9, "stone", 1, 1);
        BOUNDS.answers(x, 7, "stone", 2, 1);
        BOUNDS.answers(x, 0, "rule", 6);
        BOUNDS.answers(x, 5, "halve", 3);
        BOUNDS.answers(x, 13, "stone", 4, 1);
    }

    @Says(promise = 16, words = "BAD")
    static void noStoneToHalve() {
        BOUNDS.badOutside(Bounds::village, 0, 3, 0, "halve", 0);
        BOUNDS.badOutside(StateBoundsTest::crowd, 0, 4, 0, "halve", 0);
    }

    @Says(promise = 16, words = "STATE: it is not WARM")
    static void aPebbleIsNotHalved() {
        BOUNDS.refuses(() -> BOUNDS.told("man 0 0;flint 4 0;"), STATE, "halve", 0);
        BOUNDS.refuses(() -> BOUNDS.told("man 0 0;flint 0 0;"), STATE, "halve", 0);
    }

    @Says(promise = 16, words = "FULL: there are 5")
    static void fiveAreNotMadeSix() {
        BOUNDS.refuses(StateBoundsTest::crowd, FULL, "halve", 0);
        BOUNDS.refuses(StateBoundsTest::crowd, FULL, "halve", 1);
        BOUNDS.refuses(StateBoundsTest::crowd, FULL, "halve", 4);
    }

    @Says(promise = 16, words = "STATE: it is not WARM; FULL: there are 5")
    static void aPebbleOfFive() {
        BOUNDS.refuses(StateBoundsTest::crowd, STATE, "halve", 2);
        BOUNDS.refuses(StateBoundsTest::crowd, STATE, "halve", 3);
        BOUNDS.refuses(StateBoundsTest::crowd, BAD, "halve", 5);
    }

    public static void main(String[] args) {
        BOUNDS.run(6, 16);
    }
}
