import java.lang.reflect.InvocationTargetException;
import java.lang.reflect.Method;
import java.lang.reflect.Modifier;
import java.util.ArrayList;
import java.util.Arrays;
import java.util.Comparator;
import java.util.List;
import java.util.TreeSet;
import java.util.function.Supplier;

/**
 * Tests of boundary cases: each method that bears words of the document is a test of its own. A purse that is asked
 * for all that there is has few calls left of its 512, so what is refused is refused by a new one each time.
 */
final class Bounds {
    private final Class<?> tests;
    private final Check check;
    private String words = "";

    Bounds(Class<?> tests) {
        this.tests = tests;
        this.check = new Check(tests.getSimpleName());
    }

    // ---- running

    /** Runs all tests of the class; each of these promises must have one. */
    void run(int firstPromise, int lastPromise) {
        TreeSet<Integer> met = new TreeSet<>();
        Method[] methods = tests.getDeclaredMethods();
        Arrays.sort(methods, Comparator.comparing(Method::getName));
        for (Method m : methods) {
            Says says = m.getAnnotation(Says.class);
            if (says != null) {
                met.add(says.promise());
                words = "promise " + says.promise() + " '" + says.words() + "', " + m.getName() + ": ";
                runOne(m);
            } else if (Modifier.isStatic(m.getModifiers()) && m.getParameterCount() == 0 && m.getReturnType() == void.class) {
                check.due("a test without words: " + m.getName(), 0, 1);
            }
        }
        words = "";
        for (int promise = firstPromise; promise <= lastPromise; promise++) {
            check.due("promise " + promise + " has a test", met.contains(promise) ? 1 : 0, 1);
        }
        check.finish();
    }

    private void runOne(Method m) {
        try {
            m.invoke(null);
        } catch (InvocationTargetException e) {
            check.due(words + "threw " + e.getCause(), 0, 1);
        } catch (IllegalAccessException e) {
            check.due(words + e, 0, 1);
        }
    }

    // ---- asking

    private static long ask(TepidPurse x, String name, int... args) {
        Class<?>[] types = new Class<?>[args.length];
        Arrays.fill(types, int.class);
        try {
            return ((Number) TepidPurse.class.getMethod(name, types).invoke(x, Arrays.stream(args).boxed().toArray())).longValue();
        } catch (ReflectiveOperationException e) {
            throw new IllegalStateException(name + Arrays.toString(args) + ": " + (e.getCause() == null ? e : e.getCause()));
        }
    }

    private static String spelt(String name, int... args) {
        return name + Arrays.toString(args).replace('[', '(').replace(']', ')');
    }

    void due(String what, long got, long want) {
        check.due(words + what, got, want);
    }

    void answers(TepidPurse x, long want, String name, int... args) {
        due(spelt(name, args), ask(x, name, args), want);
    }

    /** On a new purse, brought up to there, the call is refused with that answer, and all stays as it was. */
    void refuses(Supplier<TepidPurse> upToThere, long want, String name, int... args) {
        String before = all(upToThere.get());
        TepidPurse x = upToThere.get();
        answers(x, want, name, args);
        same(spelt(name, args) + " changes nothing", all(x), before);
    }

    /** The call is BAD with that argument just below low, just above high, and as far off as may be. */
    void badOutside(Supplier<TepidPurse> upToThere, int low, int high, int which, String name, int... args) {
        for (int wrong : new int[] {low - 1, high + 1, Integer.MIN_VALUE, Integer.MAX_VALUE}) {
            int[] wrongArgs = args.clone();
            wrongArgs[which] = wrong;
            refuses(upToThere, TepidPurse.BAD, name, wrongArgs);
        }
    }

    /** The question answers so, and is only a question. */
    void tells(Supplier<TepidPurse> upToThere, long want, String name, int... args) {
        refuses(upToThere, want, name, args);
    }

    void same(String what, String got, String want) {
        due(what + ": " + got + " as " + want, got.equals(want) ? 1 : 0, 1);
    }

    // ---- texts

    TepidPurse told(String text) {
        TepidPurse x = new TepidPurse();
        int lines = Check.tell(x, text);
        due("the text " + text + " is taken", lines < 0 ? lines : 0, 0);
        return x;
    }

    void taken(String text, int lines) {
        TepidPurse x = new TepidPurse();
        due("text() of '" + text + "'", Check.tell(x, text), lines);
        due("fault() of '" + text + "'", x.fault(), 0);
        due("THE TAPE behind '" + text + "'", x.count(2), 0);
    }

    /** A text with a fault, on a purse that was told something: that stays. */
    void faulty(String text, int place, int fault) {
        TepidPurse x = told(Check.VILLAGE);
        String before = toldOf(told(Check.VILLAGE));
        due("text() of '" + text + "'", Check.tell(x, text), -10 - place);
        due("fault() of '" + text + "'", x.fault(), fault);
        due("THE TAPE behind '" + text + "'", x.count(2), 0);
        same("what was told stays behind '" + text + "'", toldOf(x), before);
    }

    // ---- all that there is

    /** PEOPLE, STONES, DEBTS, rules and PRICES. */
    static String toldOf(TepidPurse x) {
        List<Long> all = new ArrayList<>();
        addRow(all, x, "rule", 7);
        addRow(all, x, "price", 6);
        addTable(all, x, "one", 4, 4);
        addTable(all, x, "stone", 5, 5);
        addTable(all, x, "debt", 4, 3);
        return all.toString();
    }

    static String all(TepidPurse x) {
        List<Long> more = new ArrayList<>();
        addRow(more, x, "count", 7);
        addRow(more, x, "fits", 4);
        more.add(ask(x, "fault"));
        more.add(ask(x, "torn"));
        return toldOf(x) + more;
    }

    private static void addRow(List<Long> all, TepidPurse x, String name, int n) {
        for (int i = 0; i < n; i++) {
            all.add(ask(x, name, i));
        }
    }

    private static void addTable(List<Long> all, TepidPurse x, String name, int rows, int columns) {
        for (int i = 0; i < rows; i++) {
            for (int what = 0; what < columns; what++) {
                all.add(ask(x, name, i, what));
            }
        }
    }

    // ---- purses that are often wanted

    static TepidPurse village() {
        TepidPurse x = new TepidPurse();
        Check.tell(x, Check.VILLAGE);
        return x;
    }

    /** So late, with each stone as warm as it was. */
    static TepidPurse late(String text, int minute) {
        TepidPurse x = new TepidPurse();
        Check.tell(x, text);
        int[] warmths = new int[5];
        for (int s = 0; s < 5; s++) {
            warmths[s] = x.stone(s, 1);
        }
        for (int left = minute; left > 0; left -= 60) {
            x.go(Math.min(60, left));
        }
        for (int s = 0; s < x.rule(1); s++) {
            x.warm(s, 1, warmths[s]);
        }
        return x;
    }
}
