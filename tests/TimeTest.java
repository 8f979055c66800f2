/** Promises 17 to 21: go, pay, heat, after, cold. */
public final class TimeTest {
    private static final Check CHECK = new Check("TimeTest");
    private static final int BAD = TepidPurse.BAD;
    private static final int FULL = TepidPurse.FULL;

    private static void warmths(String when, TepidPurse x, int... due) {
        for (int s = 0; s < due.length; s++) {
            CHECK.due(when + ": WARMTH of " + s, x.stone(s, 1), due[s]);
        }
    }

    private static void go() {
        TepidPurse x = CHECK.told(Check.VILLAGE);
        CHECK.due("go(-1)", x.go(-1), BAD);
        CHECK.due("go(61)", x.go(61), BAD);
        CHECK.due("go(0)", x.go(0), 4);
        warmths("go(0)", x, 90, 40, 60, 8);
        CHECK.due("go(1)", x.go(1), 4);
        warmths("go(1)", x, 76, 37, 35, 7);
        CHECK.due("go(3)", x.go(3), 3);
        warmths("go(3)", x, 45, 31, 6, 4);
        CHECK.due("MINUTE", x.rule(6), 4);
        CHECK.due("go(60)", x.go(60), 0);
        warmths("go(60)", x, 0, 0, 0, 0);
        for (int i = 0; i < 15; i++) {
            x.go(60);
        }
        CHECK.due("MINUTE", x.rule(6), 964);
        CHECK.due("go(36)", x.go(36), FULL);
        CHECK.due("go(61)", x.go(61), BAD);
        CHECK.due("MINUTE", x.rule(6), 964);
        CHECK.due("go(35)", x.go(35), 0);
        CHECK.due("MINUTE", x.rule(6), 999);
        CHECK.due("go(1)", x.go(1), FULL);
        CHECK.due("go(0)", x.go(0), 0);
    }

    private static void coolingByOneAndATwentieth() {
        TepidPurse x = CHECK.told("man 5 0;soap 0 0;soap 1 0;soap 19 0;soap 20 0;slate 99 0;");
        x.go(1);
        warmths("a minute", x, 0, 0, 18, 18, 84);
    }

    private static void pay() {
        TepidPurse x = CHECK.told(Check.VILLAGE);
        CHECK.due("pay(4, 0)", x.pay(4, 0), BAD);
        CHECK.due("pay(-1, 0)", x.pay(-1, 0), BAD);
        CHECK.due("pay(0, 3)", x.pay(0, 3), BAD);
        CHECK.due("pay(0, -1)", x.pay(0, -1), BAD);
        CHECK.due("pay(0, 0)", x.pay(0, 0), TepidPurse.STATE);
        CHECK.due("MINUTE", x.rule(6), 0);
        CHECK.due("pay(0, 1)", x.pay(0, 1), 45);
        warmths("pay(0, 1)", x, 45, 31, 6, 4);
        CHECK.due("whose it is", x.stone(0, 2), 1);
        CHECK.due("MINUTE", x.rule(6), 4);
        CHECK.due("what 0 owes 1", x.debt(0, 2), 5);
        CHECK.due("what 1 owes 2", x.debt(1, 2), 20);
        CHECK.due("what 0 owes 2", x.debt(2, 2), 9);
        CHECK.due("pay(0, 1)", x.pay(0, 1), TepidPurse.STATE);
        CHECK.due("pay(1, 1)", x.pay(1, 1), 23);
        CHECK.due("0 at least", x.debt(0, 2), 0);
        CHECK.due("MINUTE", x.rule(6), 8);
    }

    private static void whatAPaymentCounts() {
        TepidPurse x = CHECK.told("man 5 0;man 5 0;soap 7 0;soap 6 0;soap 9 0;debt 1 0 9;debt 0 1 6;debt 0 1 8;");
        CHECK.due("pay(0, 1)", x.pay(0, 1), 6);
        CHECK.due("the other way round", x.debt(0, 2), 9);
        CHECK.due("the first", x.debt(1, 2), 0);
        CHECK.due("the second", x.debt(2, 2), 8);
        CHECK.due("pay(1, 1), a pebble", x.pay(1, 1), 4);
        CHECK.due("a pebble counts nothing", x.debt(2, 2), 8);
        CHECK.due("pay(2, 1)", x.pay(2, 1), 6);
        CHECK.due("the first that is not 0", x.debt(2, 2), 2);
        x.warm(0, 1, 6);
        CHECK.due("pay(0, 0)", x.pay(0, 0), 5);
        CHECK.due("5 counts", x.debt(0, 2), 4);
        CHECK.due("pay(2, 0), a pebble", x.pay(2, 0), 4);
        CHECK.due("it counts nothing", x.debt(0, 2), 4);
        x.warm(1, 1, 99);
        CHECK.due("pay(1, 0)", x.pay(1, 0), 94);
        CHECK.due("0 at least", x.debt(0, 2), 0);
        CHECK.due("what is more is lost", x.debt(2, 2), 2);
    }

    private static void heat() {
        TepidPurse x = CHECK.told(Check.VILLAGE);
        CHECK.due("heat(-1)", x.heat(-1), BAD);
        CHECK.due("heat(4)", x.heat(4), BAD);
        CHECK.due("heat(0), warmer than the oven", x.heat(0), 64);
        warmths("heat(0)", x, 64, 33, 11, 5);
        CHECK.due("MINUTE", x.rule(6), 3);
        CHECK.due("heat(3), at the oven", x.heat(3), 70);
        warmths("heat(3)", x, 54, 31, 6, 70);
        CHECK.due("MINUTE", x.rule(6), 4);
        CHECK.due("heat(1)", x.heat(1), 66);
        CHECK.due("whose it is", x.stone(1, 2), 0);
        CHECK.due("where he is", x.one(0, 1), 1);
        CHECK.due("MINUTE", x.rule(6), 7);
        x.warm(2, 1, 0);
        CHECK.due("heat(2)", x.heat(2), 24);
        CHECK.due("MINUTE", x.rule(6), 12);
    }

    private static TepidPurse atMinute(int minute) {
        TepidPurse x = CHECK.told("man 0 0;man 0 9;plain 9 0;oven 4 50;debt 0 1 9;");
        for (int i = 0; i < minute / 60; i++) {
            x.go(60);
        }
        x.go(minute % 60);
        CHECK.due("MINUTE", x.rule(6), minute);
        return x;
    }

    private static void theLastMinutes() {
        TepidPurse x = atMinute(990);
        CHECK.due("pay(0, 1) at 990", x.pay(0, 1), FULL);
        CHECK.due("pay(0, 0) at 990", x.pay(0, 0), TepidPurse.STATE);
        CHECK.due("whose it is", x.stone(0, 2), 0);
        CHECK.due("MINUTE", x.rule(6), 990);
        x = atMinute(989);
        CHECK.due("pay(0, 1) at 989", x.pay(0, 1), 0);
        CHECK.due("MINUTE", x.rule(6), 999);
        x = atMinute(991);
        x.warm(0, 1, 9);
        CHECK.due("heat(0) at 991", x.heat(0), FULL);
        CHECK.due("WARMTH", x.stone(0, 1), 9);
        CHECK.due("MINUTE", x.rule(6), 991);
        x = atMinute(990);
        CHECK.due("heat(0) at 990", x.heat(0), 11);
        CHECK.due("MINUTE", x.rule(6), 999);
        CHECK.due("heat(1)", x.heat(1), BAD);
        CHECK.due("after(0, 60)", x.after(0, 60), 0);
    }

    private static void afterAndCold() {
        TepidPurse x = CHECK.told(Check.VILLAGE);
        int[] due = {90, 76, 64, 54, 45};
        for (int n = 0; n < due.length; n++) {
            CHECK.due("after(0, " + n + ")", x.after(0, n), due[n]);
        }
        CHECK.due("after(3, 4)", x.after(3, 4), 4);
        CHECK.due("after(0, 60)", x.after(0, 60), 0);
        CHECK.due("after(0, 61)", x.after(0, 61), BAD);
        CHECK.due("after(0, -1)", x.after(0, -1), BAD);
        CHECK.due("after(4, 0)", x.after(4, 0), BAD);
        CHECK.due("after(-1, 0)", x.after(-1, 0), BAD);
        CHECK.due("cold(3)", x.cold(3), 4);
        CHECK.due("cold(2)", x.cold(2), 5);
        CHECK.due("cold(4)", x.cold(4), BAD);
        CHECK.due("cold(-1)", x.cold(-1), BAD);
        x.warm(3, 1, 5);
        CHECK.due("cold of 5", x.cold(3), 1);
        x.warm(3, 1, 4);
        CHECK.due("cold of a pebble", x.cold(3), 0);
        CHECK.due("MINUTE", x.rule(6), 0);
        warmths("asked alone", x, 90, 40, 60, 4);
    }

    public static void main(String[] args) {
        go();
        coolingByOneAndATwentieth();
        pay();
        whatAPaymentCounts();
        heat();
        theLastMinutes();
        afterAndCold();
        CHECK.finish();
    }
}
