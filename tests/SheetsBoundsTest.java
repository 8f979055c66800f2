import java.util.function.Supplier;

/** The boundary cases of promises 35 to 41: keep, back, sheet, lay, read, torn, count. */
public final class SheetsBoundsTest {
    private static final Bounds BOUNDS = new Bounds(SheetsBoundsTest.class);
    private static final int BAD = TepidPurse.BAD;
    private static final int STATE = TepidPurse.STATE;
    private static final int NONE = TepidPurse.NONE;

    /** Each payment takes a minute; 40 comes as 37, 35, 33 .. */
    private static final String PAIR = "man 5 0;man 5 0;soap 40 0;soap 50 1;debt 0 1 90;";

    private static TepidPurse laid(TepidPurse x, int k, int lane, int... cells) {
        x.sheet(k, lane, cells.length);
        for (int i = 0; i < cells.length; i++) {
            x.lay(k, i, cells[i]);
        }
        return x;
    }

    private static Supplier<TepidPurse> pair(int lane, int... cells) {
        return () -> laid(BOUNDS.told(PAIR), 0, lane, cells);
    }

    /** The first stone to and fro, so often, from the first cell on. */
    private static int[] toAndFro(int often) {
        int[] cells = new int[2 * often];
        for (int i = 0; i < often; i++) {
            cells[2 * i + 1] = (i + 1) % 2;
        }
        return cells;
    }

    // ---- promise 35

    @Says(promise = 35, words = "IMAGE k (0, 1)")
    static void twoImages() {
        TepidPurse x = Bounds.village();
        BOUNDS.answers(x, 0, "keep", 0);
        x.go(1);
        BOUNDS.answers(x, 0, "keep", 1);
        BOUNDS.answers(x, 0, "back", 0);
        BOUNDS.answers(x, 1, "back", 1);
    }

    @Says(promise = 35, words = "whether there was one (1, 0)")
    static void keptOnceAndTwice() {
        for (int k = 0; k < 2; k++) {
            TepidPurse x = new TepidPurse();
            BOUNDS.answers(x, 0, "keep", k);
            BOUNDS.answers(x, 1, "keep", k);
            BOUNDS.answers(x, 1, "count", 1);
            BOUNDS.answers(x, 0, "keep", 1 - k);
            x.text();
            BOUNDS.answers(x, 0, "keep", k);
        }
    }

    @Says(promise = 35, words = "PEOPLE, STONES (all of them), THE OVEN, WIND, PRICES, DEBTS, MINUTE")
    static void anImageOfNobodyAndOfAll() {
        TepidPurse x = new TepidPurse();
        x.set(0, 7);
        x.keep(0);
        String before = Bounds.toldOf(x);
        x.go(60);
        x.set(0, 3);
        BOUNDS.answers(x, 0, "back", 0);
        BOUNDS.same("nobody", Bounds.toldOf(x), before);
        x = BOUNDS.told("man 0 0;man 1 0;man 2 0;man 3 0;soap 90 0;soap 80 1;soap 70 2;soap 60 3;debt 0 1 1;debt 1 0 1;debt 2 3 1;debt 3 2 1;");
        x.keep(1);
        before = Bounds.toldOf(x);
        x.halve(3);
        x.pay(4, 0);
        x.owe(3, 99);
        BOUNDS.answers(x, 0, "back", 1);
        BOUNDS.same("the fifth stone is gone", Bounds.toldOf(x), before);
        BOUNDS.answers(x, 4, "rule", 1);
    }

    @Says(promise = 35, words = "BAD")
    static void noSuchImageToKeep() {
        BOUNDS.badOutside(Bounds::village, 0, 1, 0, "keep", 0);
    }

    // ---- promise 36

    @Says(promise = 36, words = "All is as IMAGE k: MINUTE")
    static void backFromTheLastMinute() {
        TepidPurse x = Bounds.late(PAIR, 999);
        x.keep(0);
        BOUNDS.answers(x, 999, "back", 0);
        x = BOUNDS.told(PAIR);
        x.keep(0);
        x.go(60);
        BOUNDS.answers(x, 0, "back", 0);
        BOUNDS.answers(x, 0, "back", 0);
        BOUNDS.answers(x, 40, "stone", 0, 1);
    }

    @Says(promise = 36, words = "BAD")
    static void noSuchImage() {
        BOUNDS.badOutside(Bounds::village, 0, 1, 0, "back", 0);
        BOUNDS.badOutside(() -> {
            TepidPurse x = Bounds.village();
            x.keep(0);
            x.keep(1);
            return x;
        }, 0, 1, 0, "back", 0);
    }

    @Says(promise = 36, words = "STATE: there is none")
    static void noImageKept() {
        BOUNDS.refuses(TepidPurse::new, STATE, "back", 0);
        BOUNDS.refuses(TepidPurse::new, STATE, "back", 1);
        for (int k = 0; k < 2; k++) {
            int other = 1 - k;
            BOUNDS.refuses(() -> {
                TepidPurse x = Bounds.village();
                x.keep(other);
                x.go(2);
                return x;
            }, STATE, "back", k);
        }
    }

    // ---- promise 37

    @Says(promise = 37, words = "A SHEET is a new row of CELLS 0: 1")
    static void noCellAndForty() {
        for (int k = 0; k < 4; k++) {
            for (int lane = 0; lane < 3; lane++) {
                TepidPurse x = new TepidPurse();
                BOUNDS.answers(x, 1, "sheet", k, lane, 0);
                BOUNDS.answers(x, -12, "lay", k, 0, 1);
                BOUNDS.answers(x, 1, "sheet", k, lane, 40);
                BOUNDS.answers(x, 1, "lay", k, 39, 1);
                BOUNDS.answers(x, -12, "lay", k, 40, 1);
            }
        }
    }

    @Says(promise = 37, words = "a new row of CELLS 0")
    static void whatWasLaidIsGone() {
        // 1 to 1 would be refused, 0 to 0 is paid
        TepidPurse x = laid(BOUNDS.told("man 5 0;man 5 0;soap 9 1;soap 9 1;"), 0, 0, 1, 1, 1, 1);
        x.sheet(0, 0, 2);
        x.sheet(0, 0, 4);
        BOUNDS.answers(x, 1, "read", 0, 0, 2, 1);
        BOUNDS.answers(x, 1, "one", 0, 2);
    }

    @Says(promise = 37, words = "a new row of CELLS 0")
    static void eachNewCellIsNothing() {
        TepidPurse x = laid(BOUNDS.told("man 5 0;man 5 0;soap 9 1;soap 9 1;"), 0, 2, 1, 1);
        x.sheet(0, 2, 2);
        BOUNDS.answers(x, 1, "read", 0, 2, 0, 1);
        BOUNDS.answers(x, 1, "one", 0, 2);
        x = laid(BOUNDS.told("man 5 0;man 5 0;soap 9 1;soap 9 1;"), 0, 2, new int[40]);
        x.lay(0, 38, 1);
        x.lay(0, 39, 1);
        x.sheet(0, 2, 40);
        BOUNDS.answers(x, 1, "read", 0, 2, 38, 1);
        BOUNDS.answers(x, 1, "one", 0, 2);
    }

    @Says(promise = 0, words = "SHEETS 0 to 3 are rows of BYTES (lane 0), SHORTS (1), INTS (2) with 0 to 40 CELLS, or nothing (at first)")
    static void sheetsFromFirstToLast() {
        TepidPurse x = BOUNDS.told(PAIR);
        for (int k = 0; k < 4; k++) {
            BOUNDS.answers(x, -11, "lay", k, 0, 0);
            laid(x, k, k % 3, 0, (k + 1) % 2);
        }
        // each has its own cells: to and fro
        for (int k = 0; k < 4; k++) {
            BOUNDS.answers(x, 1, "read", k, k % 3, 0, 1);
            BOUNDS.answers(x, (k + 1) % 2, "stone", 0, 2);
        }
    }

    @Says(promise = 37, words = "BAD: also n above 40")
    static void noSuchSheet() {
        BOUNDS.refuses(TepidPurse::new, BAD, "sheet", 0, 0, 41);
        BOUNDS.refuses(TepidPurse::new, BAD, "sheet", 0, 0, Integer.MAX_VALUE);
        BOUNDS.refuses(pair(1, 1, 2, 3), BAD, "sheet", 0, 0, 41);
        BOUNDS.badOutside(TepidPurse::new, 0, 3, 0, "sheet", 0, 0, 1);
        BOUNDS.badOutside(TepidPurse::new, 0, 2, 1, "sheet", 0, 0, 1);
    }

    @Says(promise = 37, words = "-10 - 4")
    static void aSizeBelowNothing() {
        BOUNDS.refuses(TepidPurse::new, -14, "sheet", 0, 0, -1);
        BOUNDS.refuses(TepidPurse::new, -14, "sheet", 3, 2, Integer.MIN_VALUE);
        BOUNDS.refuses(pair(1, 1, 2, 3), -14, "sheet", 0, 0, -1);
        TepidPurse x = pair(1, 1, 0).get();
        x.sheet(0, 1, -1);
        x.sheet(0, 1, 41);
        x.sheet(0, 3, 2);
        BOUNDS.answers(x, 1, "read", 0, 1, 0, 1);
    }

    @Says(promise = 37, words = "BAD: also n above 40; -10 - 4")
    static void badGoesAheadOfTheSize() {
        BOUNDS.refuses(TepidPurse::new, BAD, "sheet", 4, 0, -1);
        BOUNDS.refuses(TepidPurse::new, BAD, "sheet", -1, 0, -1);
        BOUNDS.refuses(TepidPurse::new, BAD, "sheet", 0, 3, -1);
        BOUNDS.refuses(TepidPurse::new, BAD, "sheet", 0, -1, -1);
    }

    // ---- promise 38

    @Says(promise = 38, words = "CELL i of a SHEET becomes v (its lowest bits): 1")
    static void valuesGoRound() {
        int[][] same = {{256, 257}, {-256, -255}, {65536, 65537}, {Integer.MIN_VALUE, Integer.MIN_VALUE + 1}};
        int[][] paid = {{1, -20, -20}, {1, -20, -20}, {1, 1, -20}, {1, 1, -20}};
        for (int lane = 0; lane < 3; lane++) {
            for (int i = 0; i < same.length; i++) {
                TepidPurse x = laid(BOUNDS.told(PAIR), 2, lane, same[i]);
                BOUNDS.answers(x, paid[i][lane], "read", 2, lane, 0, 1);
            }
        }
    }

    @Says(promise = 38, words = "BAD: k")
    static void noSheetToLay() {
        BOUNDS.badOutside(TepidPurse::new, 0, 3, 0, "lay", 0, 0, 0);
        BOUNDS.badOutside(pair(0, 1, 0), 0, 3, 0, "lay", 0, 0, 0);
        BOUNDS.refuses(TepidPurse::new, BAD, "lay", 4, -1, 0);
    }

    @Says(promise = 38, words = "-10 less the FAULT: NULL, INDEX")
    static void noCellToLay() {
        for (int i : new int[] {Integer.MIN_VALUE, -1, 0, 39, 40, Integer.MAX_VALUE}) {
            BOUNDS.refuses(TepidPurse::new, -11, "lay", 1, i, 1);
        }
        for (int lane = 0; lane < 3; lane++) {
            for (int i : new int[] {Integer.MIN_VALUE, -1, 2, 39, 40, Integer.MAX_VALUE}) {
                BOUNDS.refuses(pair(lane, 1, 0), -12, "lay", 0, i, 1);
            }
        }
        TepidPurse x = pair(0, 1, 0).get();
        x.lay(0, -1, 1);
        x.lay(0, 2, 1);
        BOUNDS.answers(x, 1, "read", 0, 0, 0, 1);
        BOUNDS.answers(x, 3, "one", 0, 2);
    }

    // ---- promise 39

    @Says(promise = 39, words = "n (0 to 20) times a STONE, a ONE are read of a SHEET")
    static void noneAndTwentyAreRead() {
        BOUNDS.refuses(pair(2, toAndFro(20)), 0, "read", 0, 2, 0, 0);
        TepidPurse x = pair(2, toAndFro(20)).get();
        BOUNDS.answers(x, 20, "read", 0, 2, 0, 20);
        BOUNDS.answers(x, 0, "torn");
        BOUNDS.answers(x, 20, "rule", 6);
        BOUNDS.answers(x, 0, "stone", 0, 2);
    }

    @Says(promise = 39, words = "two CELLS each from CELL f on")
    static void fromTheFirstCellAndTheLast() {
        TepidPurse x = pair(1, toAndFro(20)).get();
        // the second of them pays it to whose it is
        BOUNDS.answers(x, -20, "read", 0, 1, 2, 1);
        BOUNDS.answers(x, 1, "read", 0, 1, 36, 1);
        BOUNDS.answers(x, 1, "read", 0, 1, 38, 1);
        BOUNDS.answers(x, 0, "torn");
        BOUNDS.answers(x, 0, "read", 0, 1, 39, 1);
        BOUNDS.answers(x, 2, "torn");
        BOUNDS.answers(x, 0, "read", 0, 1, 40, 1);
        BOUNDS.answers(x, 2, "torn");
    }

    @Says(promise = 39, words = "taken as of a lane")
    static void takenAsOfEachLane() {
        for (int lane = 0; lane < 3; lane++) {
            for (int as = 0; as < 3; as++) {
                TepidPurse x = pair(lane, 0, 1).get();
                BOUNDS.answers(x, lane == as ? 1 : 0, "read", 0, as, 0, 1);
                BOUNDS.answers(x, lane == as ? 0 : 3, "torn");
                BOUNDS.answers(x, lane == as ? 1 : 0, "rule", 6);
            }
        }
    }

    @Says(promise = 39, words = "What the machine refuses: those that were whole ahead were")
    static void tornInTheMiddle() {
        // two and a half, two and nothing
        for (int cells = 4; cells <= 5; cells++) {
            TepidPurse x = pair(0, java.util.Arrays.copyOf(new int[] {0, 1, 1, 0, 0}, cells)).get();
            BOUNDS.answers(x, 2, "read", 0, 0, 0, 20);
            BOUNDS.answers(x, 2, "torn");
            BOUNDS.answers(x, 2, "rule", 6);
            BOUNDS.answers(x, 1, "stone", 0, 2);
            BOUNDS.answers(x, 0, "stone", 1, 2);
            BOUNDS.answers(x, 53, "debt", 0, 2);
        }
        // one cell alone
        TepidPurse x = pair(0, 0).get();
        BOUNDS.answers(x, 0, "read", 0, 0, 0, 1);
        BOUNDS.answers(x, 2, "torn");
        BOUNDS.answers(x, 0, "rule", 6);
    }

    @Says(promise = 39, words = "What the machine refuses")
    static void cellsFarOff() {
        for (int f : new int[] {Integer.MIN_VALUE, -2, -1, 2, 40, Integer.MAX_VALUE - 1, Integer.MAX_VALUE}) {
            for (int n : new int[] {1, 2, 20}) {
                TepidPurse x = pair(0, 0, 1).get();
                BOUNDS.answers(x, 0, "read", 0, 0, f, n);
                BOUNDS.answers(x, 2, "torn");
                BOUNDS.answers(x, 0, "rule", 6);
            }
        }
    }

    @Says(promise = 39, words = "BAD: k, lane, n")
    static void noSuchReading() {
        BOUNDS.badOutside(pair(0, 0, 1), 0, 3, 0, "read", 0, 0, 0, 1);
        BOUNDS.badOutside(pair(0, 0, 1), 0, 2, 1, "read", 0, 0, 0, 1);
        BOUNDS.badOutside(pair(0, 0, 1), 0, 20, 3, "read", 0, 0, 0, 1);
        BOUNDS.badOutside(TepidPurse::new, 0, 20, 3, "read", 0, 0, 0, 1);
        BOUNDS.badOutside(TepidPurse::new, 0, 3, 0, "read", 0, 0, 0, 0);
        BOUNDS.badOutside(TepidPurse::new, 0, 2, 1, "read", 0, 0, 0, 0);
    }

    @Says(promise = 39, words = "-20 less i: the i-th, whole, is refused by pay() (in whichever way): then none was")
    static void refusedInWhicheverWay() {
        BOUNDS.refuses(pair(2, 2, 1), -20, "read", 0, 2, 0, 1);
        BOUNDS.refuses(pair(2, -1, 1), -20, "read", 0, 2, 0, 1);
        BOUNDS.refuses(pair(2, 0, 2), -20, "read", 0, 2, 0, 1);
        BOUNDS.refuses(pair(2, 0, -1), -20, "read", 0, 2, 0, 1);
        BOUNDS.refuses(pair(2, Integer.MIN_VALUE, Integer.MAX_VALUE), -20, "read", 0, 2, 0, 1);
        BOUNDS.refuses(pair(2, 0, 0), -20, "read", 0, 2, 0, 1);
        BOUNDS.refuses(() -> laid(Bounds.late(PAIR, 999), 0, 2, 0, 1), -20, "read", 0, 2, 0, 1);
        BOUNDS.refuses(() -> laid(Bounds.late(PAIR, 998), 0, 2, 0, 1, 1, 0), -21, "read", 0, 2, 0, 2);
    }

    @Says(promise = 39, words = "-20 less i")
    static void theLastOfTwentyRefused() {
        int[] cells = toAndFro(20);
        cells[39] = 1;
        BOUNDS.refuses(pair(0, cells), -39, "read", 0, 0, 0, 20);
        TepidPurse x = pair(0, cells).get();
        BOUNDS.answers(x, 19, "read", 0, 0, 0, 19);
        BOUNDS.answers(x, 19, "rule", 6);
    }

    @Says(promise = 39, words = "the first met")
    static void refusedAheadOfTornAndTornAheadOfRefused() {
        // the second is refused, the third is torn
        BOUNDS.refuses(pair(0, 0, 1, 0, 1, 0), -21, "read", 0, 0, 0, 3);
        // both the first and the second are refused
        BOUNDS.refuses(pair(0, 9, 9, 9, 9), -20, "read", 0, 0, 0, 2);
        // the second is torn, though its STONE is none
        TepidPurse x = pair(0, 0, 1, 9).get();
        BOUNDS.answers(x, 1, "read", 0, 0, 0, 2);
        BOUNDS.answers(x, 2, "torn");
        // of another lane: nothing is read that could be refused
        x = pair(0, 9, 9).get();
        BOUNDS.answers(x, 0, "read", 0, 1, 0, 1);
        BOUNDS.answers(x, 3, "torn");
    }

    // ---- promise 40

    @Says(promise = 40, words = "0")
    static void notTornAtFirst() {
        BOUNDS.tells(TepidPurse::new, 0, "torn");
        BOUNDS.tells(pair(0, 0, 1), 0, "torn");
    }

    @Says(promise = 0, words = "1 NULL (nothing), 2 INDEX, 3 CAST (another lane), 4 SIZE (below 0)")
    static void theFaultsOfTheMachine() {
        TepidPurse x = BOUNDS.told(PAIR);
        x.read(0, 1, 0, 1);
        BOUNDS.answers(x, 1, "torn");
        x.read(0, 1, -1, 1);
        BOUNDS.answers(x, 1, "torn");
        x.sheet(0, 1, 1);
        x.read(0, 1, 0, 1);
        BOUNDS.answers(x, 2, "torn");
        x.read(0, 0, 0, 1);
        BOUNDS.answers(x, 3, "torn");
        x.read(0, 2, -1, 1);
        BOUNDS.answers(x, 3, "torn");
        BOUNDS.answers(x, -14, "sheet", 0, 1, -1);
        BOUNDS.answers(x, 3, "torn");
    }

    @Says(promise = 40, words = "The FAULT of the latest read() that came to an end")
    static void theLatestThatCameToAnEnd() {
        TepidPurse x = pair(0, 0, 0, 1).get();
        x.read(0, 0, 2, 1);
        BOUNDS.answers(x, 2, "torn");
        // refused, or BAD: those came to no end; lay() is no read()
        BOUNDS.answers(x, -20, "read", 0, 0, 0, 1);
        BOUNDS.answers(x, 2, "torn");
        BOUNDS.answers(x, BAD, "read", 0, 0, 0, 21);
        BOUNDS.answers(x, BAD, "read", 4, 0, 0, 1);
        BOUNDS.answers(x, -11, "lay", 1, 0, 0);
        BOUNDS.answers(x, 2, "torn");
        BOUNDS.answers(x, 0, "read", 1, 0, 0, 1);
        BOUNDS.answers(x, 1, "torn");
        BOUNDS.answers(x, 1, "read", 0, 0, 1, 1);
        BOUNDS.answers(x, 0, "torn");
    }

    @Says(promise = 40, words = "The FAULT of the latest read() that came to an end; 0")
    static void nothingReadIsNotTorn() {
        for (int as = 0; as < 3; as++) {
            for (int f : new int[] {Integer.MIN_VALUE, -1, 0, 2, Integer.MAX_VALUE}) {
                TepidPurse x = pair(1, 0, 1).get();
                x.read(1, 0, 0, 1);
                BOUNDS.answers(x, 1, "torn");
                BOUNDS.answers(x, 0, "read", 0, as, f, 0);
                BOUNDS.answers(x, 0, "torn");
                x.read(1, 0, 0, 1);
                BOUNDS.answers(x, 0, "read", 1, as, f, 0);
                BOUNDS.answers(x, 0, "torn");
            }
        }
    }

    // ---- promise 41

    @Says(promise = 41, words = "0 SEEN, 1 IMAGES, 2 bytes on THE TAPE, 3 CELLS of SHEET 0 (NONE: nothing), 4 STONES that are WARM, 5 all WARMTH, 6 all DEBTS")
    static void theFewestAndTheMost() {
        int[] fewest = {0, 0, 0, NONE, 0, 0, 0};
        int[] most = {6, 2, 160, 40, 5, 495, 396};
        for (int what = 0; what <= 6; what++) {
            BOUNDS.tells(TepidPurse::new, fewest[what], "count", what);
            BOUNDS.tells(SheetsBoundsTest::asManyAsMayBe, most[what], "count", what);
        }
    }

    private static TepidPurse asManyAsMayBe() {
        TepidPurse x = BOUNDS.told("man 0 0;man 0 0;soap 99 0;soap 99 0;soap 99 0;soap 99 0;soap 99 0;"
            + "debt 0 1 99;debt 0 1 99;debt 0 1 99;debt 0 1 99;");
        for (int i = 0; i < 6; i++) {
            x.see(0, 99);
        }
        x.keep(0);
        x.keep(1);
        x.sheet(0, 0, 40);
        Check.feedAll(x, " ".repeat(160));
        return x;
    }

    @Says(promise = 41, words = "3 CELLS of SHEET 0 (NONE: nothing)")
    static void nothingOrNoCells() {
        TepidPurse x = new TepidPurse();
        x.sheet(1, 0, 5);
        x.sheet(2, 0, 5);
        x.sheet(3, 0, 5);
        BOUNDS.answers(x, NONE, "count", 3);
        x.sheet(0, 0, -1);
        BOUNDS.answers(x, NONE, "count", 3);
        x.sheet(0, 0, 0);
        BOUNDS.answers(x, 0, "count", 3);
        x.sheet(0, 2, 40);
        BOUNDS.answers(x, 40, "count", 3);
    }

    @Says(promise = 41, words = "4 STONES that are WARM")
    static void warmFromFiveOn() {
        TepidPurse x = BOUNDS.told("man 0 0;soap 4 0;soap 5 0;soap 6 0;soap 0 0;");
        BOUNDS.answers(x, 2, "count", 4);
        BOUNDS.answers(x, 15, "count", 5);
    }

    @Says(promise = 41, words = "BAD")
    static void noSuchCount() {
        BOUNDS.badOutside(TepidPurse::new, 0, 6, 0, "count", 0);
        BOUNDS.badOutside(SheetsBoundsTest::asManyAsMayBe, 0, 6, 0, "count", 0);
    }

    public static void main(String[] args) {
        BOUNDS.run(35, 41);
    }
}
