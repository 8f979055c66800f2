/** The boundary cases of what is told, and of promises 1 to 5: a new object, feed, end, text, fault. */
public final class TapeBoundsTest {
    private static final Bounds BOUNDS = new Bounds(TapeBoundsTest.class);
    private static final int BAD = TepidPurse.BAD;
    private static final int STATE = TepidPurse.STATE;
    private static final int FULL = TepidPurse.FULL;
    private static final int NONE = TepidPurse.NONE;

    private static final String FOUR_MEN = "man 0 0;man 0 0;man 0 0;man 0 0;";
    private static final String FIVE_STONES = "plain 1 0;flint 1 0;slate 1 0;soap 1 0;plain 1 0;";
    private static final String FOUR_DEBTS = "debt 0 1 1;debt 1 0 1;debt 0 1 1;debt 1 0 1;";

    private static TepidPurse fed(String bytes) {
        TepidPurse x = new TepidPurse();
        Check.feedAll(x, bytes);
        return x;
    }

    private static TepidPurse full() {
        return fed(";".repeat(160));
    }

    // ---- how many there may be

    @Says(promise = 0, words = "PEOPLE (4 at most)")
    static void fourMenButNotFive() {
        BOUNDS.taken(FOUR_MEN, 4);
        BOUNDS.answers(BOUNDS.told(FOUR_MEN), 4, "rule", 0);
        BOUNDS.faulty(FOUR_MEN + "man 0 0;", 32, 5);
    }

    @Says(promise = 0, words = "STONES (5 at most)")
    static void fiveStonesButNotSix() {
        BOUNDS.taken("man 0 0;" + FIVE_STONES, 6);
        BOUNDS.answers(BOUNDS.told("man 0 0;" + FIVE_STONES), 5, "rule", 1);
        for (String kind : new String[] {"plain", "flint", "slate", "soap"}) {
            BOUNDS.faulty("man 0 0;" + FIVE_STONES + kind + " 1 0;", 8 + FIVE_STONES.length(), 5);
        }
    }

    @Says(promise = 0, words = "DEBTS (4 at most)")
    static void fourDebtsButNotFive() {
        BOUNDS.taken("man 0 0;man 0 0;" + FOUR_DEBTS, 6);
        BOUNDS.answers(BOUNDS.told("man 0 0;man 0 0;" + FOUR_DEBTS), 4, "rule", 2);
        BOUNDS.faulty("man 0 0;man 0 0;" + FOUR_DEBTS + "debt 0 1 1;", 60, 5);
    }

    // ---- numbers and their bounds

    @Says(promise = 0, words = "WOOL (0 to 5)")
    static void woolInAText() {
        BOUNDS.answers(BOUNDS.told("man 0 1;"), 0, "one", 0, 0);
        BOUNDS.answers(BOUNDS.told("man 5 1;"), 5, "one", 0, 0);
        BOUNDS.faulty("man 6 1;", 4, 3);
        BOUNDS.faulty("man 99 1;", 4, 3);
    }

    @Says(promise = 0, words = "at a PLACE (0 to 9)")
    static void placeInAText() {
        BOUNDS.answers(BOUNDS.told("man 1 0;"), 0, "one", 0, 1);
        BOUNDS.answers(BOUNDS.told("man 1 9;"), 9, "one", 0, 1);
        BOUNDS.faulty("man 1 10;", 6, 3);
        BOUNDS.faulty("man 1 99;", 6, 3);
    }

    @Says(promise = 0, words = "with WARMTH (0 to 99)")
    static void warmthInAText() {
        BOUNDS.answers(BOUNDS.told("man 1 0;flint 0 0;"), 0, "stone", 0, 1);
        BOUNDS.answers(BOUNDS.told("man 1 0;flint 99 0;"), 99, "stone", 0, 1);
        BOUNDS.faulty("man 1 0;flint 100 0;", 14, 1);
    }

    @Says(promise = 0, words = "whose it is (0 to 3)")
    static void whoseInAText() {
        BOUNDS.answers(BOUNDS.told(FOUR_MEN + "soap 7 0;"), 0, "stone", 0, 2);
        BOUNDS.answers(BOUNDS.told(FOUR_MEN + "soap 7 3;"), 3, "stone", 0, 2);
        BOUNDS.faulty(FOUR_MEN + "soap 7 4;", 39, 3);
        BOUNDS.faulty("plain 7 4;", 8, 3);
        BOUNDS.faulty("flint 7 4;", 8, 3);
        BOUNDS.faulty("slate 7 99;", 8, 3);
    }

    @Says(promise = 0, words = "THE OVEN at a PLACE (0 to 9; 0 at first)")
    static void placeOfTheOven() {
        BOUNDS.answers(new TepidPurse(), 0, "rule", 3);
        BOUNDS.answers(BOUNDS.told("oven 9 7;"), 9, "rule", 3);
        BOUNDS.answers(BOUNDS.told("oven 0 7;"), 0, "rule", 3);
        BOUNDS.faulty("oven 10 7;", 5, 3);
    }

    @Says(promise = 0, words = "of a HEAT (5 to 99; 50)")
    static void heatInAText() {
        BOUNDS.answers(new TepidPurse(), 50, "rule", 4);
        BOUNDS.answers(BOUNDS.told("oven 1 5;"), 5, "rule", 4);
        BOUNDS.answers(BOUNDS.told("oven 1 99;"), 99, "rule", 4);
        BOUNDS.faulty("oven 1 4;", 7, 3);
        BOUNDS.faulty("oven 1 0;", 7, 3);
        BOUNDS.faulty("oven 1 100;", 7, 1);
    }

    @Says(promise = 0, words = "WIND (0 to 10 tenths; 2)")
    static void windInAText() {
        BOUNDS.answers(new TepidPurse(), 2, "rule", 5);
        BOUNDS.answers(BOUNDS.told("wind 0;"), 0, "rule", 5);
        BOUNDS.answers(BOUNDS.told("wind 10;"), 10, "rule", 5);
        BOUNDS.faulty("wind 11;", 5, 3);
    }

    @Says(promise = 0, words = "PRICES of minutes 0 to 5 (1 to 9 each; 1)")
    static void pricesInAText() {
        for (int t = 0; t < 6; t++) {
            BOUNDS.answers(new TepidPurse(), 1, "price", t);
            BOUNDS.answers(BOUNDS.told("price " + t + " 1;"), 1, "price", t);
            BOUNDS.answers(BOUNDS.told("price " + t + " 9;"), 9, "price", t);
            BOUNDS.faulty("price " + t + " 0;", 8, 3);
            BOUNDS.faulty("price " + t + " 10;", 8, 3);
        }
    }

    @Says(promise = 0, words = "price: a minute (0 to 5), its PRICE")
    static void minutesOfPrices() {
        BOUNDS.taken("price 0 1;price 5 1;", 2);
        BOUNDS.faulty("price 6 1;", 6, 3);
        BOUNDS.faulty("price 99 1;", 6, 3);
    }

    @Says(promise = 0, words = "a ONE owes another one so much (0 to 99)")
    static void howMuchInAText() {
        BOUNDS.answers(BOUNDS.told("man 0 0;man 0 0;debt 0 1 0;"), 0, "debt", 0, 2);
        BOUNDS.answers(BOUNDS.told("man 0 0;man 0 0;debt 0 1 99;"), 99, "debt", 0, 2);
        BOUNDS.faulty("debt 0 1 100;", 9, 1);
    }

    @Says(promise = 0, words = "who owes, whom (another one; 0 to 3 each)")
    static void whoOwesWhom() {
        TepidPurse x = BOUNDS.told(FOUR_MEN + "debt 0 3 1;debt 3 0 1;");
        BOUNDS.answers(x, 0, "debt", 0, 0);
        BOUNDS.answers(x, 3, "debt", 0, 1);
        BOUNDS.answers(x, 3, "debt", 1, 0);
        BOUNDS.answers(x, 0, "debt", 1, 1);
        BOUNDS.faulty("debt 4 0 1;", 5, 3);
        BOUNDS.faulty("debt 0 4 1;", 7, 3);
        BOUNDS.faulty("debt 4 4 1;", 5, 3);
    }

    @Says(promise = 0, words = "MINUTE (0 at first)")
    static void theFirstMinute() {
        BOUNDS.answers(new TepidPurse(), 0, "rule", 6);
        BOUNDS.answers(BOUNDS.told("man 0 0;"), 0, "rule", 6);
    }

    // ---- tokens

    @Says(promise = 0, words = "THE TAPE has 160 bytes, places from 0")
    static void aWholeTapeIsRead() {
        String lines = "man 5 9;".repeat(4) + "soap 99 3;".repeat(5) + "debt 0 3 99;".repeat(4) + "wind 1;price 5 9;";
        String text = " ".repeat(160 - lines.length()) + lines;
        TepidPurse x = fed(text);
        BOUNDS.answers(x, 160, "count", 2);
        BOUNDS.answers(x, 15, "text");
        BOUNDS.answers(x, 9, "price", 5);
        BOUNDS.faulty("?" + " ".repeat(159), 0, 1);
        BOUNDS.faulty(" ".repeat(159) + "?", 159, 1);
    }

    @Says(promise = 0, words = "TOKENS, each as long as may be")
    static void tokensAreAsLongAsMayBe() {
        BOUNDS.faulty("mansoap 1 1;", 0, 2);
        BOUNDS.faulty("manman 1 1;", 0, 2);
        BOUNDS.faulty("man 123;", 4, 1);
        BOUNDS.taken("man 1 2;", 1);
        BOUNDS.faulty("man 12;", 4, 3);
    }

    @Says(promise = 0, words = "blanks (32) between")
    static void blanksNoneOrMany() {
        BOUNDS.taken("man5 9;wind3;", 2);
        BOUNDS.taken("   man   5   9   ;   ", 1);
        for (char c : new char[] {0, 9, 10, 13, 31, 33, 127}) {
            BOUNDS.faulty("man" + c + "5 9;", 3, 1);
        }
    }

    @Says(promise = 0, words = "NAMES (a .. z)")
    static void lettersFromAToZ() {
        BOUNDS.faulty("az", 0, 2);
        BOUNDS.faulty("za", 0, 2);
        BOUNDS.faulty("`", 0, 1);
        BOUNDS.faulty("{", 0, 1);
        BOUNDS.faulty("A", 0, 1);
        BOUNDS.faulty("Z", 0, 1);
    }

    @Says(promise = 0, words = "NUMBERS (1 or 2 figures)")
    static void oneOrTwoFigures() {
        BOUNDS.taken("wind 0;", 1);
        BOUNDS.taken("wind 00;", 1);
        BOUNDS.taken("wind 09;", 1);
        BOUNDS.faulty("wind 000;", 5, 1);
        BOUNDS.faulty("wind 001;", 5, 1);
        BOUNDS.faulty("wind /;", 5, 1);
        BOUNDS.faulty("wind :;", 5, 1);
    }

    @Says(promise = 0, words = "one ;")
    static void oneSemicolon() {
        BOUNDS.faulty("wind 1;;", 7, 2);
        BOUNDS.faulty(";", 0, 2);
        BOUNDS.faulty("wind 1;oven 1 7", 15, 2);
    }

    @Says(promise = 0, words = "text: { line }")
    static void aTextOfNoLine() {
        BOUNDS.taken("", 0);
        BOUNDS.taken(" ", 0);
        BOUNDS.taken(" ".repeat(160), 0);
    }

    // ---- faults

    @Says(promise = 0, words = "1 no TOKEN, a NUMBER that is too long (its first byte)")
    static void theFirstFault() {
        BOUNDS.faulty("#", 0, 1);
        BOUNDS.faulty("man 1 1#", 7, 1);
        BOUNDS.faulty("man 1 1;#", 8, 1);
        BOUNDS.faulty("man 1 100;", 6, 1);
        BOUNDS.faulty("100", 0, 1);
        BOUNDS.faulty("man 1 1 100;", 8, 1);
        // 2 to the power of 32, and so much more than 3: a number of the machine would go round
        BOUNDS.faulty("wind 4294967296;", 5, 1);
        BOUNDS.faulty("wind 4294967299;", 5, 1);
        BOUNDS.faulty("wind 18446744073709551617;", 5, 1);
        BOUNDS.faulty("wind " + "9".repeat(155), 5, 1);
    }

    @Says(promise = 0, words = "2 a TOKEN that can not stand there (a NAME that begins no line; or the end: the length)")
    static void theSecondFault() {
        BOUNDS.faulty("men 1 1;", 0, 2);
        BOUNDS.faulty("wind 1;ma", 7, 2);
        BOUNDS.faulty("man man 1;", 4, 2);
        BOUNDS.faulty("man 1 ;", 6, 2);
        BOUNDS.faulty("man 1 1 1;", 8, 2);
        BOUNDS.faulty("1 1;", 0, 2);
        String[] lines = {"man 1 1", "plain 1 1", "flint 1 1", "slate 1 1", "soap 1 1", "oven 1 7", "wind 1", "price 1 1", "debt 0 1 1"};
        for (String line : lines) {
            for (int cut = line.indexOf(' '); cut >= 0; cut = line.indexOf(' ', cut + 1)) {
                BOUNDS.faulty(line.substring(0, cut), cut, 2);
                BOUNDS.faulty(line.substring(0, cut) + "  ", cut + 2, 2);
            }
            BOUNDS.faulty(line, line.length(), 2);
        }
    }

    @Says(promise = 0, words = "a NAME that begins no line")
    static void namesOffByALetter() {
        for (String name : new String[] {"man", "plain", "flint", "slate", "soap", "oven", "wind", "price", "debt"}) {
            String rest = name.substring(1);
            BOUNDS.faulty("x" + rest + " 1 1;", 0, 2);
            BOUNDS.faulty(rest + " 1 1;", 0, 2);
            BOUNDS.faulty(name.substring(0, name.length() - 1) + "x 1 1;", 0, 2);
            BOUNDS.faulty(name.substring(0, name.length() - 1) + " 1 1;", 0, 2);
            BOUNDS.faulty(name + "x 1 1;", 0, 2);
            BOUNDS.faulty("x" + name + " 1 1;", 0, 2);
        }
    }

    @Says(promise = 0, words = "or the end: the length")
    static void theEndOfAFullTape() {
        BOUNDS.faulty("man" + " ".repeat(157), 160, 2);
    }

    @Says(promise = 0, words = "3 a NUMBER out of its bounds (debt: to himself)")
    static void theThirdFault() {
        for (int p = 0; p < 4; p++) {
            BOUNDS.faulty(FOUR_MEN + "debt " + p + " " + p + " 1;", 39, 3);
        }
        BOUNDS.faulty("debt 1 01 1;", 7, 3);
        BOUNDS.faulty("debt 1 1", 7, 3);
    }

    @Says(promise = 0, words = "4 oven, wind for the second time (its NAME)")
    static void theFourthFault() {
        BOUNDS.faulty("oven 1 7;oven 2 8;", 9, 4);
        BOUNDS.faulty("oven 1 7; oven", 10, 4);
        BOUNDS.faulty("wind 1;wind 2;", 7, 4);
        BOUNDS.faulty("wind 1;  wind", 9, 4);
        BOUNDS.taken("wind 1;oven 1 7;", 2);
    }

    @Says(promise = 0, words = "a minute whose PRICE is told already (it)")
    static void aPriceToldAlready() {
        for (int t = 0; t < 6; t++) {
            BOUNDS.faulty("price " + t + " 2;price " + t + " 2;", 16, 4);
            BOUNDS.faulty("price " + t + " 2;price 0" + t, 16, 4);
        }
        BOUNDS.taken("price 0 2;price 1 2;price 2 2;price 3 2;price 4 2;price 5 2;", 6);
        BOUNDS.faulty("price 0 2;price 6 2;", 16, 3);
    }

    @Says(promise = 0, words = "5 the 5th man, the 6th STONE, the 5th debt (its NAME)")
    static void theFifthFault() {
        BOUNDS.faulty(FOUR_MEN + " man", 33, 5);
        BOUNDS.faulty(FOUR_MEN + "man 9 9;", 32, 5);
        BOUNDS.faulty(FIVE_STONES + " soap", FIVE_STONES.length() + 1, 5);
        BOUNDS.faulty(FIVE_STONES + "flint 1 9;", FIVE_STONES.length(), 5);
        BOUNDS.faulty(FOUR_DEBTS + " debt", 45, 5);
        BOUNDS.faulty(FOUR_DEBTS + "debt 0 0 1;", 44, 5);
    }

    @Says(promise = 0, words = "Behind all (the length): 6 a ONE that there is not")
    static void theSixthFault() {
        BOUNDS.taken("soap 7 0;man 0 0;", 2);
        BOUNDS.faulty("soap 7 0;", 9, 6);
        BOUNDS.faulty("man 0 0;soap 7 1;", 17, 6);
        BOUNDS.faulty("man 0 0;soap 7 1;  ", 19, 6);
        BOUNDS.taken("man 0 0;man 0 0;man 0 0;soap 7 2;", 4);
        BOUNDS.faulty("man 0 0;man 0 0;man 0 0;soap 7 3;", 33, 6);
        BOUNDS.taken("debt 0 1 1;man 0 0;man 0 0;", 3);
        BOUNDS.faulty("debt 0 1 1;man 0 0;", 19, 6);
        BOUNDS.faulty("debt 1 0 1;man 0 0;", 19, 6);
        BOUNDS.faulty("debt 0 1 0;", 11, 6);
        BOUNDS.faulty("soap 7 0;#", 9, 1);
    }

    @Says(promise = 0, words = "the first met as it is read (a TOKEN is read when the one before has been taken)")
    static void theFirstFaultMet() {
        BOUNDS.faulty("man 6#", 4, 3);
        BOUNDS.faulty("man 5#", 5, 1);
        BOUNDS.faulty("cow#", 0, 2);
        BOUNDS.faulty("wind 1;wind#", 7, 4);
        BOUNDS.faulty("price 1 1;price 1#", 16, 4);
        BOUNDS.faulty(FOUR_MEN + "man#", 32, 5);
        BOUNDS.faulty("debt 2 2#", 7, 3);
        BOUNDS.faulty("man 6 99;", 4, 3);
        BOUNDS.faulty("soap 7 0;wind 11;", 14, 3);
    }

    // ---- what a text does

    @Says(promise = 0, words = "A text that is taken tells all, in place of what there was")
    static void nothingIsLeftOfWhatThereWas() {
        TepidPurse x = Bounds.village();
        x.go(9);
        BOUNDS.answers(x, 0, "text");
        BOUNDS.same("all is as at first", Bounds.all(x), Bounds.all(new TepidPurse()));
    }

    @Says(promise = 0, words = "in place of what there was")
    static void allRulesAreAsAtFirst() {
        String everyRule = "man 5 9;soap 99 0;oven 9 99;wind 10;price 0 9;price 1 9;price 2 9;price 3 9;price 4 9;price 5 9;";
        TepidPurse x = BOUNDS.told(everyRule);
        x.go(60);
        // what is only tried is no part of what is told next
        x.drift(1, 60, 0);
        BOUNDS.answers(x, 0, "text");
        BOUNDS.same("all is as at first", Bounds.toldOf(x), Bounds.toldOf(new TepidPurse()));
        BOUNDS.due("the same text again", Check.tell(x, everyRule), 10);
        BOUNDS.same("all is as told", Bounds.toldOf(x), Bounds.toldOf(BOUNDS.told(everyRule)));
    }

    @Says(promise = 0, words = "nothing is SEEN; IMAGES are gone")
    static void nothingIsSeenAndNoImageLeft() {
        TepidPurse x = new TepidPurse();
        x.see(0, 0);
        x.keep(0);
        x.keep(1);
        Check.tell(x, "wind");
        BOUNDS.answers(x, 1, "count", 0);
        BOUNDS.answers(x, 2, "count", 1);
        Check.tell(x, "wind 1;");
        BOUNDS.answers(x, 0, "count", 0);
        BOUNDS.answers(x, 0, "count", 1);
        BOUNDS.answers(x, STATE, "back", 0);
        BOUNDS.answers(x, STATE, "back", 1);
        BOUNDS.answers(x, 0, "keep", 0);
        BOUNDS.answers(x, 0, "keep", 1);
    }

    @Says(promise = 0, words = "what is refused changes nothing (but THE TAPE, as told)")
    static void aRefusedTextTakesTheTape() {
        TepidPurse x = Bounds.village();
        String before = Bounds.toldOf(x);
        Check.feedAll(x, "man 0 0;wind");
        BOUNDS.answers(x, -22, "text");
        BOUNDS.answers(x, 0, "count", 2);
        BOUNDS.same("what was told stays", Bounds.toldOf(x), before);
        BOUNDS.answers(x, 0, "text");
        BOUNDS.answers(x, 0, "fault");
        BOUNDS.answers(x, 0, "rule", 0);
    }

    // ---- promise 1

    @Says(promise = 1, words = "Nobody, no STONES")
    static void nobodyAtFirst() {
        TepidPurse x = new TepidPurse();
        BOUNDS.answers(x, 0, "rule", 0);
        BOUNDS.answers(x, 0, "rule", 1);
        BOUNDS.answers(x, 0, "rule", 2);
        BOUNDS.answers(x, 0, "count", 4);
        BOUNDS.answers(x, 0, "count", 5);
        BOUNDS.answers(x, 0, "count", 6);
        BOUNDS.answers(x, 0, "settle", 0);
        BOUNDS.answers(x, 0, "fits", 0);
        BOUNDS.answers(x, NONE, "fits", 1);
        BOUNDS.answers(x, 0, "go", 60);
    }

    @Says(promise = 1, words = "Nobody, no STONES")
    static void whatNobodyIsAskedFor() {
        String[] ofOne = {"one", "dress", "stone", "warm", "halve", "pay", "heat", "after", "cold", "way", "wool", "walks", "buys",
            "lasts", "mean", "spend", "debt", "owe", "fewest"};
        int[] arguments = {2, 3, 2, 3, 1, 2, 1, 2, 1, 3, 2, 2, 2, 3, 3, 2, 2, 2, 2};
        for (int i = 0; i < ofOne.length; i++) {
            BOUNDS.refuses(TepidPurse::new, BAD, ofOne[i], new int[arguments[i]]);
        }
        BOUNDS.refuses(TepidPurse::new, STATE, "drift", 1, 1, 0);
    }

    @Says(promise = 1, words = "SHEETS have nothing")
    static void sheetsAreNothingAtFirst() {
        for (int k = 0; k < 4; k++) {
            TepidPurse x = new TepidPurse();
            BOUNDS.answers(x, -11, "lay", k, 0, 0);
            BOUNDS.answers(x, 0, "read", k, 0, 0, 1);
            BOUNDS.answers(x, 1, "torn");
        }
        BOUNDS.answers(new TepidPurse(), NONE, "count", 3);
    }

    // ---- promise 2

    @Says(promise = 2, words = "A byte (0 to 127)")
    static void bytesFromLowestToHighest() {
        TepidPurse x = new TepidPurse();
        BOUNDS.answers(x, 1, "feed", 0);
        BOUNDS.answers(x, 2, "feed", 127);
    }

    @Says(promise = 2, words = "BAD")
    static void noByte() {
        BOUNDS.badOutside(TepidPurse::new, 0, 127, 0, "feed", 0);
        BOUNDS.refuses(TepidPurse::new, BAD, "feed", 256);
        BOUNDS.refuses(TepidPurse::new, BAD, "feed", 65536);
    }

    @Says(promise = 2, words = "FULL: more than 160")
    static void theTapeIsFull() {
        BOUNDS.answers(fed(";".repeat(158)), 159, "feed", ';');
        BOUNDS.answers(fed(";".repeat(159)), 160, "feed", ';');
        BOUNDS.refuses(TapeBoundsTest::full, FULL, "feed", ';');
        TepidPurse x = full();
        x.end(159);
        BOUNDS.answers(x, 160, "feed", ';');
        BOUNDS.answers(x, FULL, "feed", ';');
        x.text();
        BOUNDS.answers(x, 1, "feed", ';');
    }

    @Says(promise = 2, words = "BAD; FULL")
    static void badGoesAheadOfFull() {
        BOUNDS.refuses(TapeBoundsTest::full, BAD, "feed", 128);
        BOUNDS.refuses(TapeBoundsTest::full, BAD, "feed", -1);
    }

    @Says(promise = 2, words = "comes behind THE TAPE")
    static void whatIsRefusedIsNotOnTheTape() {
        TepidPurse x = fed("wind 1");
        x.feed(-1);
        x.feed(128);
        x.feed(';' + 256);
        x.feed(';');
        BOUNDS.answers(x, 1, "text");
        x = fed(" ".repeat(153) + "wind 7;");
        x.feed('#');
        BOUNDS.answers(x, 1, "text");
    }

    // ---- promise 3

    @Says(promise = 3, words = "THE TAPE keeps its first n bytes: how many it had")
    static void theEndOfTheTape() {
        TepidPurse x = full();
        BOUNDS.answers(x, 160, "end", 160);
        BOUNDS.answers(x, 160, "end", 159);
        BOUNDS.answers(x, 159, "end", 1);
        BOUNDS.answers(x, 1, "end", 0);
        BOUNDS.answers(x, 0, "end", 0);
        BOUNDS.answers(x, 0, "count", 2);
    }

    @Says(promise = 3, words = "keeps its first n bytes")
    static void whatIsKeptIsTheFirst() {
        TepidPurse x = fed("wind 12;");
        x.end(6);
        BOUNDS.answers(x, 7, "feed", ';');
        BOUNDS.answers(x, 1, "text");
        BOUNDS.answers(x, 1, "rule", 5);
    }

    @Says(promise = 3, words = "BAD")
    static void noSuchEnd() {
        BOUNDS.badOutside(TepidPurse::new, 0, 0, 0, "end", 0);
        BOUNDS.badOutside(() -> fed("abc"), 0, 3, 0, "end", 0);
        BOUNDS.badOutside(TapeBoundsTest::full, 0, 160, 0, "end", 0);
    }

    // ---- promise 4

    @Says(promise = 4, words = "THE TAPE (empty then) tells all: how many lines")
    static void theTapeIsEmptyBehindAText() {
        TepidPurse x = fed("wind 1;oven 1 7;");
        BOUNDS.answers(x, 2, "text");
        BOUNDS.answers(x, 0, "count", 2);
        BOUNDS.answers(x, 1, "feed", 'a');
        BOUNDS.answers(x, -10, "text");
        BOUNDS.answers(x, 0, "count", 2);
        BOUNDS.answers(x, 1, "feed", ' ');
    }

    @Says(promise = 4, words = "how many lines")
    static void anEmptyTapeTellsNobody() {
        TepidPurse x = BOUNDS.told("man 0 0;");
        BOUNDS.answers(x, 0, "text");
        BOUNDS.answers(x, 0, "rule", 0);
    }

    @Says(promise = 4, words = "how many lines")
    static void theMostLines() {
        String text = "man 0 0;".repeat(4) + "soap 0 0;".repeat(5) + "debt 0 1 0;".repeat(4) + "wind0;oven0 5;price0 1;";
        BOUNDS.taken(text, 16);
        BOUNDS.faulty("wind 1;".repeat(22) + "wind 1", 7, 4);
    }

    @Says(promise = 4, words = "-10 less the place of its FAULT")
    static void thePlaceOfAFault() {
        BOUNDS.answers(fed("?"), -10, "text");
        BOUNDS.answers(fed(" ".repeat(159) + "?"), -169, "text");
        BOUNDS.answers(fed("wind 1" + " ".repeat(154)), -170, "text");
    }

    @Says(promise = 4, words = "that which was told stays")
    static void aFaultyTextTellsNothing() {
        BOUNDS.faulty("man 0 0;wind 9;oven 9 99;price 0 1;#", 35, 1);
        BOUNDS.faulty("man 0 0;wind 9;oven 9 99;price 0 1;soap 9 3;", 44, 6);
        TepidPurse x = Bounds.village();
        x.go(3);
        Check.tell(x, "#");
        BOUNDS.answers(x, 3, "rule", 6);
    }

    // ---- promise 5

    @Says(promise = 5, words = "0")
    static void noFaultAtFirst() {
        BOUNDS.tells(TepidPurse::new, 0, "fault");
        BOUNDS.tells(Bounds::village, 0, "fault");
    }

    @Says(promise = 5, words = "The FAULT of the latest text()")
    static void theFaultOfTheLatestText() {
        TepidPurse x = new TepidPurse();
        String[] texts = {"#", "man", "wind 11;", "wind 1;wind 1;", FOUR_MEN + "man", "soap 1 0;", "wind 1;"};
        int[] faults = {1, 2, 3, 4, 5, 6, 0};
        for (int i = 0; i < texts.length; i++) {
            Check.tell(x, texts[i]);
            BOUNDS.answers(x, faults[i], "fault");
            BOUNDS.answers(x, faults[i], "fault");
        }
        Check.tell(x, "wind 11;");
        Check.feedAll(x, "wind 1;");
        x.feed(128);
        x.end(2);
        x.go(61);
        BOUNDS.answers(x, 3, "fault");
        x.end(0);
        x.text();
        BOUNDS.answers(x, 0, "fault");
    }

    public static void main(String[] args) {
        BOUNDS.run(0, 5);
    }
}
