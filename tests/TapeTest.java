/** Promises 1 to 5: a new object, feed, end, text, fault. */
public final class TapeTest {
    private static final Check CHECK = new Check("TapeTest");

    private static void taken(String text, int lines) {
        TepidPurse x = new TepidPurse();
        CHECK.due("text of '" + text + "'", Check.tell(x, text), lines);
        CHECK.due("fault of '" + text + "'", x.fault(), 0);
        CHECK.due("the tape behind '" + text + "'", x.count(2), 0);
    }

    private static void faulty(String text, int place, int fault) {
        TepidPurse x = new TepidPurse();
        CHECK.due("text of '" + text + "'", Check.tell(x, text), -10 - place);
        CHECK.due("fault of '" + text + "'", x.fault(), fault);
        CHECK.due("the tape behind '" + text + "'", x.count(2), 0);
    }

    private static void newObject() {
        TepidPurse x = new TepidPurse();
        int[] rules = {0, 0, 0, 0, 50, 2, 0};
        int[] counts = {0, 0, 0, TepidPurse.NONE, 0, 0, 0};
        for (int i = 0; i < 7; i++) {
            CHECK.due("new: rule(" + i + ")", x.rule(i), rules[i]);
            CHECK.due("new: count(" + i + ")", x.count(i), counts[i]);
        }
        for (int i = 0; i < 6; i++) {
            CHECK.due("new: price(" + i + ")", x.price(i), 1);
        }
        CHECK.due("new: one(0, 0)", x.one(0, 0), TepidPurse.BAD);
        CHECK.due("new: stone(0, 0)", x.stone(0, 0), TepidPurse.BAD);
        CHECK.due("new: debt(0, 0)", x.debt(0, 0), TepidPurse.BAD);
        CHECK.due("new: fault()", x.fault(), 0);
        CHECK.due("new: torn()", x.torn(), 0);
        for (int k = 0; k < 4; k++) {
            CHECK.due("new: lay(" + k + ", 0, 0)", x.lay(k, 0, 0), -11);
        }
        CHECK.due("new: back(0)", x.back(0), TepidPurse.STATE);
        CHECK.due("new: back(1)", x.back(1), TepidPurse.STATE);
        CHECK.due("new: text()", x.text(), 0);
    }

    private static void feedAndEnd() {
        TepidPurse x = new TepidPurse();
        CHECK.due("feed(-1)", x.feed(-1), TepidPurse.BAD);
        CHECK.due("feed(128)", x.feed(128), TepidPurse.BAD);
        CHECK.due("count(2)", x.count(2), 0);
        CHECK.due("end(0) of nothing", x.end(0), 0);
        CHECK.due("end(1) of nothing", x.end(1), TepidPurse.BAD);
        CHECK.due("feed(0)", x.feed(0), 1);
        CHECK.due("feed(127)", x.feed(127), 2);
        for (int i = 3; i <= 160; i++) {
            CHECK.due("feed, the " + i + "th", x.feed(';'), i);
        }
        CHECK.due("feed, one too many", x.feed(';'), TepidPurse.FULL);
        CHECK.due("feed(128) when full", x.feed(128), TepidPurse.BAD);
        CHECK.due("count(2)", x.count(2), 160);
        CHECK.due("end(161)", x.end(161), TepidPurse.BAD);
        CHECK.due("end(-1)", x.end(-1), TepidPurse.BAD);
        CHECK.due("end(160)", x.end(160), 160);
        CHECK.due("end(7)", x.end(7), 160);
        CHECK.due("end(8)", x.end(8), TepidPurse.BAD);
        CHECK.due("end(0)", x.end(0), 7);
        CHECK.due("count(2)", x.count(2), 0);
        Check.feedAll(x, "wind 7; what comes behind is cut off");
        CHECK.due("end(7)", x.end(7), 36);
        CHECK.due("text()", x.text(), 1);
        CHECK.due("rule(5)", x.rule(5), 7);
    }

    private static void textsThatAreTaken() {
        taken("", 0);
        taken("   ", 0);
        taken("man 0 0;", 1);
        taken(" man  5   9 ; ", 1);
        taken("man5 9;man 05 09;man 1 1 ;man1 1;", 4);
        taken("plain 99 0;man 0 0;", 2);
        taken("debt 1 0 99;man 0 0;man 0 0;", 3);
        taken("oven 9 99;", 1);
        taken("oven 0 5;wind 10;", 2);
        taken("wind 0;oven 9 5;", 2);
        taken("price 0 9;price 1 9;price 2 9;price 3 9;price 4 1;price 5 1;", 6);
        taken("man 0 0;man 0 0;man 0 0;man 0 0;soap 0 3;slate 0 0;flint 1 1;plain 2 2;soap 00 3;", 9);
        taken("man 0 0;man 0 0;man 0 0;man 0 0;debt 3 0 1;debt 0 3 1;debt 2 3 1;", 7);
        taken("man 0 0;man 0 0;debt 0 1 0;debt 1 0 9;debt 0 1 99;debt 1 0 1;", 6);
    }

    private static void noToken() {
        faulty("Man 0 0;", 0, 1);
        faulty("man 0 0;\t", 8, 1);
        faulty("man 0 0;\n", 8, 1);
        faulty("man\t0 0;", 3, 1);
        faulty("man 100 0;", 4, 1);
        faulty("man 000 0;", 4, 1);
        faulty("man 0 -1;", 6, 1);
        faulty("123", 0, 1);
        faulty("man 0 0:", 7, 1);
        faulty("man 0 0/", 7, 1);
        faulty("mA", 0, 2);
        faulty("man`", 3, 1);
        faulty("man{", 3, 1);
        faulty("debt 0 1 100;", 9, 1);
        faulty("man 99999999999999999999 0;", 4, 1);
    }

    private static void tokenThatCanNotStandThere() {
        faulty("12", 0, 2);
        faulty(";", 0, 2);
        faulty("man 0 0;;", 8, 2);
        faulty("cat 1 1;", 0, 2);
        faulty("ma 1 1;", 0, 2);
        faulty("mans 1 1;", 0, 2);
        faulty(" x", 1, 2);
        faulty("zan 1 1;", 0, 2);
        faulty("mzn 1 1;", 0, 2);
        faulty("az 1 1;", 0, 2);
        faulty("man", 3, 2);
        faulty("man  ", 5, 2);
        faulty("man 1", 5, 2);
        faulty("man 1 1", 7, 2);
        faulty("man 1 1  ", 9, 2);
        faulty("man ;", 4, 2);
        faulty("man 1;", 5, 2);
        faulty("man a 1;", 4, 2);
        faulty("man 1 1 1;", 8, 2);
        faulty("man 1 1 man 1 1;", 8, 2);
        faulty("soap 1;", 6, 2);
        faulty("oven 1;", 6, 2);
        faulty("wind ;", 5, 2);
        faulty("wind 1 1;", 7, 2);
        faulty("price 1;", 7, 2);
        faulty("debt 0 1;", 8, 2);
        faulty("debt 0 1 1 1;", 11, 2);
    }

    private static void outOfBounds() {
        faulty("man 6 0;", 4, 3);
        faulty("man 0 10;", 6, 3);
        faulty("plain 0 4;", 8, 3);
        faulty("flint 0 4;", 8, 3);
        faulty("slate 0 4;", 8, 3);
        faulty("soap 0 4;", 7, 3);
        faulty("oven 10 5;", 5, 3);
        faulty("oven 0 4;", 7, 3);
        faulty("wind 11;", 5, 3);
        faulty("price 6 1;", 6, 3);
        faulty("price 0 0;", 8, 3);
        faulty("price 0 10;", 8, 3);
        faulty("debt 4 0 1;", 5, 3);
        faulty("debt 0 4 1;", 7, 3);
        faulty("debt 2 2 1;", 7, 3);
    }

    private static void toldTwice() {
        faulty("oven 0 5;oven 0 5;", 9, 4);
        faulty("oven 0 5;wind 3;wind 3;", 16, 4);
        faulty("wind 3;oven 0 5;oven", 16, 4);
        faulty("price 0 1;price 0 1;", 16, 4);
        faulty("price 3 1;price 2 1;price 3 x", 26, 4);
        faulty("price 5 1;price 6 1;", 16, 3);
    }

    private static void tooMany() {
        String fourMen = "man 0 0;man 0 0;man 0 0;man 0 0;";
        faulty(fourMen + "man 0 0;", 32, 5);
        faulty(fourMen + " man", 33, 5);
        String fiveStones = "soap 1 0;slate 1 0;flint 1 0;plain 1 0;soap 1 0;";
        faulty(fiveStones + "flint 1 0;", fiveStones.length(), 5);
        faulty(fiveStones + "plain", fiveStones.length(), 5);
        faulty(fiveStones + "soap x", fiveStones.length(), 5);
        faulty(fiveStones + "slate 100", fiveStones.length(), 5);
        String fourDebts = "debt 0 1 1;debt 0 1 1;debt 0 1 1;debt 0 1 1;";
        faulty(fourDebts + "debt 0 1 1;", 44, 5);
        faulty(fourDebts + "debt", 44, 5);
    }

    private static void nobody() {
        faulty("plain 1 0;", 10, 6);
        faulty("man 0 0;plain 1 1; ", 19, 6);
        faulty("man 0 0;man 0 0;man 0 0;soap 1 3;", 33, 6);
        faulty("man 0 0;debt 0 1 5;", 19, 6);
        faulty("man 0 0;debt 1 0 5;", 19, 6);
        faulty("debt 0 1 0;", 11, 6);
    }

    private static void theFirstMet() {
        faulty("man 6 $", 4, 3);
        faulty("man 6", 4, 3);
        faulty("man 1 $", 6, 1);
        faulty("cat $", 0, 2);
        faulty("plain 1 0;x", 10, 2);
        faulty("wind 1;wind 11;", 7, 4);
        faulty("debt 1 1 100;", 7, 3);
        faulty("plain 1 3;man 6 0;", 14, 3);
    }

    private static void whatIsCutOffIsNotRead() {
        TepidPurse x = new TepidPurse();
        Check.feedAll(x, "man 1 12;");
        x.end(7);
        CHECK.due("a figure cut off", x.text(), -17);
        Check.feedAll(x, "man 1  ");
        x.end(5);
        CHECK.due("a blank cut off", x.text(), -15);
        Check.feedAll(x, "mans");
        x.end(3);
        CHECK.due("a letter cut off", x.text(), -13);
    }

    private static void eachTextIsReadAnew() {
        TepidPurse x = new TepidPurse();
        String text = "man 1 1;plain 9 0;oven 1 5;wind 1;price 0 2;price 5 3;";
        CHECK.due("a text", Check.tell(x, text), 6);
        x.go(7);
        x.drift(1, 9, 0);
        CHECK.due("the same again", Check.tell(x, text), 6);
        CHECK.due("MINUTE", x.rule(6), 0);
        CHECK.due("a faulty one", Check.tell(x, text + "price 5"), -70);
        CHECK.due("the same again", Check.tell(x, text), 6);
        CHECK.due("none of it", Check.tell(x, "wind 3;"), 1);
        CHECK.due("WIND", x.rule(5), 3);
        for (int t = 0; t < 6; t++) {
            CHECK.due("price(" + t + ")", x.price(t), 1);
        }
    }

    private static void whatATextDoes() {
        TepidPurse x = CHECK.told("man 1 2;man 3 4;plain 50 0;oven 3 60;wind 9;price 1 8;debt 0 1 7;");
        x.go(3);
        x.see(0, 1);
        x.keep(0);
        x.keep(1);
        x.sheet(0, 0, 5);
        CHECK.due("a faulty text", Check.tell(x, "man 0 0;man 0 0;man"), -29);
        CHECK.due("its fault", x.fault(), 2);
        int[] stay = {2, 1, 1, 3, 60, 9, 3};
        for (int i = 0; i < 7; i++) {
            CHECK.due("rule(" + i + ") stays", x.rule(i), stay[i]);
        }
        CHECK.due("PRICE stays", x.price(1), 8);
        CHECK.due("WOOL stays", x.one(1, 0), 3);
        CHECK.due("SEEN stays", x.count(0), 1);
        CHECK.due("IMAGES stay", x.count(1), 2);
        CHECK.due("a text", Check.tell(x, "man 5 5;"), 1);
        CHECK.due("its fault", x.fault(), 0);
        int[] anew = {1, 0, 0, 0, 50, 2, 0};
        for (int i = 0; i < 7; i++) {
            CHECK.due("rule(" + i + ") anew", x.rule(i), anew[i]);
        }
        CHECK.due("PRICE anew", x.price(1), 1);
        CHECK.due("nothing SEEN", x.count(0), 0);
        CHECK.due("no IMAGES", x.count(1), 0);
        CHECK.due("no IMAGE 0", x.back(0), TepidPurse.STATE);
        CHECK.due("no IMAGE 1", x.back(1), TepidPurse.STATE);
        CHECK.due("SHEETS stay", x.count(3), 5);
        CHECK.due("an empty text", x.text(), 0);
        CHECK.due("nobody is left", x.rule(0), 0);
    }

    public static void main(String[] args) {
        newObject();
        feedAndEnd();
        textsThatAreTaken();
        noToken();
        tokenThatCanNotStandThere();
        outOfBounds();
        toldTwice();
        tooMany();
        nobody();
        theFirstMet();
        whatIsCutOffIsNotRead();
        eachTextIsReadAnew();
        whatATextDoes();
        CHECK.finish();
    }
}
