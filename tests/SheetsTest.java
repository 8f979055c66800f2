/** Promises 35 to 41: keep, back, sheet, lay, read, torn, count. */
public final class SheetsTest {
    private static final Check CHECK = new Check("SheetsTest");
    private static final int BAD = TepidPurse.BAD;
    private static final int STATE = TepidPurse.STATE;
    private static final int NONE = TepidPurse.NONE;
    private static final String PAIR = "man 5 0;man 5 0;soap 40 0;soap 50 1;debt 0 1 90;";

    private static String state(TepidPurse x) {
        StringBuilder all = new StringBuilder();
        for (int what = 0; what < 7; what++) {
            all.append(x.rule(what)).append(' ');
        }
        for (int i = 0; i < 6; i++) {
            all.append(x.price(i)).append(' ');
            for (int what = 0; what < 5; what++) {
                all.append(x.one(i, what)).append(' ').append(x.stone(i, what)).append(' ').append(x.debt(i, what)).append(' ');
            }
        }
        return all.toString();
    }

    private static void same(String when, String got, String want) {
        CHECK.due(when + ": " + got + "as " + want, got.equals(want) ? 1 : 0, 1);
    }

    private static void keepAndBack() {
        TepidPurse x = CHECK.told(Check.VILLAGE);
        CHECK.due("keep(-1)", x.keep(-1), BAD);
        CHECK.due("keep(2)", x.keep(2), BAD);
        CHECK.due("back(-1)", x.back(-1), BAD);
        CHECK.due("back(2)", x.back(2), BAD);
        CHECK.due("back(0)", x.back(0), STATE);
        CHECK.due("count(1)", x.count(1), 0);
        x.go(2);
        String kept = state(x);
        CHECK.due("keep(0)", x.keep(0), 0);
        CHECK.due("count(1)", x.count(1), 1);
        CHECK.due("back(1)", x.back(1), STATE);
        changeAll(x);
        String changed = state(x);
        CHECK.due("keep(1)", x.keep(1), 0);
        CHECK.due("count(1)", x.count(1), 2);
        x.see(3, 3);
        CHECK.due("back(0)", x.back(0), 2);
        same("back(0)", state(x), kept);
        CHECK.due("SEEN stays", x.count(0), 1);
        changeAll(x);
        CHECK.due("back(0) again", x.back(0), 2);
        same("back(0) again", state(x), kept);
        CHECK.due("back(1)", x.back(1), 4);
        same("back(1)", state(x), changed);
        CHECK.due("keep(0) again", x.keep(0), 1);
        CHECK.due("count(1)", x.count(1), 2);
        x.back(0);
        same("back(0) at last", state(x), changed);
    }

    private static void changeAll(TepidPurse x) {
        x.dress(0, 0, 1);
        x.dress(0, 1, 7);
        x.warm(2, 0, 3);
        x.warm(2, 1, 77);
        x.set(0, 8);
        x.set(1, 88);
        x.set(2, 8);
        x.ask(5, 5);
        x.owe(2, 22);
        x.halve(0);
        x.dress(1, 1, 2);
        x.dress(2, 1, 2);
        x.pay(2, 2);
        x.go(1);
    }

    private static void sheetAndLay() {
        TepidPurse x = new TepidPurse();
        int[][] bad = {{-1, 0, 0}, {4, 0, 0}, {0, -1, 0}, {0, 3, 0}, {0, 0, 41}, {4, 0, -1}, {0, 3, -1}};
        for (int[] b : bad) {
            CHECK.due("sheet" + java.util.Arrays.toString(b), x.sheet(b[0], b[1], b[2]), BAD);
        }
        CHECK.due("sheet(0, 0, -1)", x.sheet(0, 0, -1), -14);
        CHECK.due("sheet(0, 0, MIN)", x.sheet(0, 0, Integer.MIN_VALUE), -14);
        CHECK.due("count(3)", x.count(3), NONE);
        CHECK.due("lay(0, 0, 0)", x.lay(0, 0, 0), -11);
        CHECK.due("lay(0, -1, 0)", x.lay(0, -1, 0), -11);
        CHECK.due("lay(4, 0, 0)", x.lay(4, 0, 0), BAD);
        CHECK.due("lay(-1, 0, 0)", x.lay(-1, 0, 0), BAD);
        CHECK.due("sheet(0, 2, 0)", x.sheet(0, 2, 0), 1);
        CHECK.due("count(3)", x.count(3), 0);
        CHECK.due("lay(0, 0, 0)", x.lay(0, 0, 0), -12);
        CHECK.due("sheet(0, 2, 40)", x.sheet(0, 2, 40), 1);
        CHECK.due("sheet(0, 2, -1)", x.sheet(0, 2, -1), -14);
        CHECK.due("count(3)", x.count(3), 40);
        CHECK.due("lay(0, 39, 1)", x.lay(0, 39, 1), 1);
        CHECK.due("lay(0, 40, 1)", x.lay(0, 40, 1), -12);
        CHECK.due("lay(0, -1, 1)", x.lay(0, -1, 1), -12);
        CHECK.due("lay(0, MAX, 1)", x.lay(0, Integer.MAX_VALUE, 1), -12);
        CHECK.due("lay(1, 0, 1)", x.lay(1, 0, 1), -11);
    }

    private static void layAll(TepidPurse x, int k, int... cells) {
        for (int i = 0; i < cells.length; i++) {
            x.lay(k, i, cells[i]);
        }
    }

    private static void readIs(String call, TepidPurse x, int got, int paid, int torn) {
        CHECK.due(call, got, paid);
        CHECK.due("torn() behind " + call, x.torn(), torn);
    }

    private static void read() {
        TepidPurse x = CHECK.told(PAIR);
        x.sheet(1, 0, 7);
        layAll(x, 1, 0, 1, 1, 0, 0, 0, 1);
        readIs("read(1, 0, 0, 3)", x, x.read(1, 0, 0, 3), 3, 0);
        CHECK.due("MINUTE", x.rule(6), 3);
        CHECK.due("DEBT", x.debt(0, 2), 53);
        CHECK.due("whose they are", x.one(0, 2), 3);
        int[][] bad = {{-1, 0, 0, 1}, {4, 0, 0, 1}, {0, -1, 0, 1}, {0, 3, 0, 1}, {1, 0, 0, -1}, {1, 0, 0, 21}};
        for (int[] b : bad) {
            CHECK.due("read" + java.util.Arrays.toString(b), x.read(b[0], b[1], b[2], b[3]), BAD);
        }
        CHECK.due("MINUTE", x.rule(6), 3);
    }

    private static void readWhatThePurseRefuses() {
        TepidPurse x = CHECK.told(PAIR);
        x.sheet(0, 2, 8);
        layAll(x, 0, 0, 1, 1, 0, 1, 0, 5, 0);
        String before = state(x);
        readIs("his already, the third", x, x.read(0, 2, 0, 4), -22, 0);
        same("none was", state(x), before);
        readIs("no such stone", x, x.read(0, 2, 6, 1), -20, 0);
        x.lay(0, 6, 0);
        x.lay(0, 7, 2);
        readIs("no such one", x, x.read(0, 2, 6, 1), -20, 0);
        x.lay(0, 6, -1);
        readIs("a stone below 0", x, x.read(0, 2, 6, 1), -20, 0);
        readIs("torn, but behind the refused", x, x.read(0, 2, 0, 20), -22, 0);
        same("none was", state(x), before);
        readIs("refused, but behind the two", x, x.read(0, 2, 0, 2), 2, 0);
        x = CHECK.told(PAIR);
        for (int i = 0; i < 16; i++) {
            x.go(60);
        }
        x.go(38);
        x.sheet(0, 2, 4);
        layAll(x, 0, 0, 1, 1, 0);
        readIs("too late for two", x, x.read(0, 2, 0, 2), -21, 0);
        CHECK.due("MINUTE", x.rule(6), 998);
        readIs("not for one", x, x.read(0, 2, 0, 1), 1, 0);
        CHECK.due("MINUTE", x.rule(6), 999);
    }

    private static void readWhatTheMachineRefuses() {
        TepidPurse x = CHECK.told(PAIR);
        readIs("NULL", x, x.read(0, 0, 0, 1), 0, 1);
        readIs("NULL with a wrong cell", x, x.read(0, 0, -5, 1), 0, 1);
        x.sheet(0, 1, 5);
        layAll(x, 0, 0, 1, 1, 0, 0);
        readIs("CAST to bytes", x, x.read(0, 0, 0, 1), 0, 3);
        readIs("CAST to ints", x, x.read(0, 2, 0, 1), 0, 3);
        readIs("CAST with a wrong cell", x, x.read(0, 2, 99, 1), 0, 3);
        readIs("INDEX below", x, x.read(0, 1, -1, 1), 0, 2);
        readIs("INDEX below by two", x, x.read(0, 1, -2, 2), 0, 2);
        readIs("INDEX above", x, x.read(0, 1, 5, 1), 0, 2);
        readIs("INDEX of the second", x, x.read(0, 1, 4, 1), 0, 2);
        readIs("INDEX at the top", x, x.read(0, 1, Integer.MAX_VALUE, 2), 0, 2);
        readIs("INDEX at the bottom", x, x.read(0, 1, Integer.MIN_VALUE, 1), 0, 2);
        CHECK.due("MINUTE", x.rule(6), 0);
        CHECK.due("read(0, 3, 0, 0)", x.read(0, 3, 0, 0), BAD);
        CHECK.due("torn() of the latest that came to an end", x.torn(), 2);
        x.lay(0, 4, 7);
        CHECK.due("refused", x.read(0, 1, 1, 1), -20);
        CHECK.due("torn() of the latest that came to an end", x.torn(), 2);
        readIs("none", x, x.read(0, 1, 0, 0), 0, 0);
        readIs("two that were whole ahead", x, x.read(0, 1, 0, 3), 2, 2);
        CHECK.due("MINUTE", x.rule(6), 2);
        CHECK.due("DEBT", x.debt(0, 2), 53);
        CHECK.due("whose the first is", x.stone(0, 2), 1);
        CHECK.due("whose the second is", x.stone(1, 2), 0);
    }

    /** With n 0 nothing is taken and nothing is read: no FAULT, whatever the SHEET is and whatever was torn before. */
    private static void readNothing() {
        TepidPurse x = CHECK.told(PAIR);
        String before = state(x);
        readIs("nothing of nothing", x, x.read(0, 0, 0, 0), 0, 0);
        for (int lane = 0; lane < 3; lane++) {
            x.sheet(0, lane, 0);
            for (int as = 0; as < 3; as++) {
                String call = "of lane " + lane + " taken as of " + as;
                readIs("one " + call, x, x.read(0, as, 0, 1), 0, lane == as ? 2 : 3);
                readIs("nothing " + call, x, x.read(0, as, 0, 0), 0, 0);
            }
        }
        readIs("nothing from beyond", x, x.read(0, 1, 9, 0), 0, 0);
        readIs("nothing from below", x, x.read(0, 1, -9, 0), 0, 0);
        same("none was", state(x), before);
    }

    private static void lowestBits() {
        for (int lane = 0; lane < 3; lane++) {
            TepidPurse x = CHECK.told(PAIR);
            x.sheet(3, lane, 2);
            layAll(x, 3, 0x7f00, 0x7f01);
            CHECK.due("8 bits of lane " + lane, x.read(3, lane, 0, 1), lane == 0 ? 1 : -20);
            x = CHECK.told(PAIR);
            x.sheet(3, lane, 2);
            layAll(x, 3, 0x70000, 0xfff70001);
            CHECK.due("16 bits of lane " + lane, x.read(3, lane, 0, 1), lane < 2 ? 1 : -20);
            layAll(x, 3, 1, 0);
            CHECK.due("small ones of lane " + lane, x.read(3, lane, 0, 1), 1);
            layAll(x, 3, -1, -1);
            CHECK.due("below 0 of lane " + lane, x.read(3, lane, 0, 1), -20);
        }
    }

    private static void newCells() {
        TepidPurse x = CHECK.told("man 0 0;man 0 0;plain 9 1;plain 9 1;");
        x.sheet(0, 0, 4);
        layAll(x, 0, 1, 1, 1, 1);
        x.sheet(0, 0, 4);
        CHECK.due("new cells are 0", x.read(0, 0, 2, 1), 1);
        CHECK.due("stone 0 to one 0", x.one(0, 2), 1);
        x.pay(0, 1);
        x.sheet(0, 0, 4);
        layAll(x, 0, 1, 1, 1, 1);
        x.sheet(0, 0, 4);
        CHECK.due("from the first on", x.read(0, 0, 0, 1), 1);
        CHECK.due("stone 0 to one 0", x.one(0, 2), 1);
    }

    private static void count() {
        TepidPurse x = CHECK.told(Check.VILLAGE);
        CHECK.due("count(4)", x.count(4), 4);
        CHECK.due("count(5)", x.count(5), 198);
        CHECK.due("count(6)", x.count(6), 79);
        x.warm(0, 1, 4);
        x.warm(1, 1, 5);
        CHECK.due("count(4)", x.count(4), 3);
        CHECK.due("count(5)", x.count(5), 77);
        x.owe(0, 0);
        CHECK.due("count(6)", x.count(6), 29);
        x.see(1, 1);
        x.see(1, 1);
        CHECK.due("count(0)", x.count(0), 2);
        x.keep(1);
        CHECK.due("count(1)", x.count(1), 1);
        Check.feedAll(x, "abc");
        CHECK.due("count(2)", x.count(2), 3);
        x.sheet(1, 0, 7);
        CHECK.due("count(3)", x.count(3), NONE);
        x.sheet(0, 0, 9);
        CHECK.due("count(3)", x.count(3), 9);
        CHECK.due("count(-1)", x.count(-1), BAD);
        CHECK.due("count(7)", x.count(7), BAD);
    }

    public static void main(String[] args) {
        keepAndBack();
        sheetAndLay();
        read();
        readWhatThePurseRefuses();
        readWhatTheMachineRefuses();
        readNothing();
        lowestBits();
        newCells();
        count();
        CHECK.finish();
    }
}
