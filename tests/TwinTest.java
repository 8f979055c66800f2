import java.lang.reflect.Method;
import java.util.Arrays;
import java.util.Map;
import java.util.Random;
import java.util.TreeMap;

/** Random runs, by fixed seeds, on the program and on its twin: all answers and all that can be asked agree. */
public final class TwinTest {
    private static final int RUNS = 700;
    private static final int CALLS = 70;
    private static final int[] WILD = {
        Integer.MIN_VALUE, Integer.MAX_VALUE, -1000000, -21, -20, -2, -1, 6, 7, 9, 10, 11, 14, 15, 20, 21, 40, 41,
        60, 61, 99, 100, 127, 128, 160, 161, 255, 256, 65536, 1000000
    };

    private final Random random;
    private final TepidPurse program = new TepidPurse();
    private final Twin twin = new Twin();
    private final StringBuilder story = new StringBuilder();

    private TwinTest(long seed) {
        random = new Random(seed);
    }

    private static final String[] SPELT = ("feed end text fault rule one stone debt price dress warm set ask owe "
        + "halve go pay heat after cold way fewest settle wool walks buys lasts mean "
        + "spend see forget fits drift keep back sheet lay read torn count").split(" ");
    private static final Map<String, Method> OF_PROGRAM = methods(TepidPurse.class);
    private static final Map<String, Method> OF_TWIN = methods(Twin.class);

    private static Map<String, Method> methods(Class<?> of) {
        Map<String, Method> found = new TreeMap<>();
        for (Method m : of.getDeclaredMethods()) {
            boolean isOfFace = Arrays.asList(SPELT).contains(m.getName())
                && Arrays.stream(m.getParameterTypes()).allMatch(t -> t == int.class);
            if (isOfFace) {
                found.put(m.getName(), m);
            }
        }
        return found;
    }

    private long ask(String name, int... args) throws ReflectiveOperationException {
        Object[] boxed = Arrays.stream(args).boxed().toArray();
        long got = ((Number) OF_PROGRAM.get(name).invoke(program, boxed)).longValue();
        long want = ((Number) OF_TWIN.get(name).invoke(twin, boxed)).longValue();
        story.append("  ").append(name).append(Arrays.toString(args)).append(" = ").append(got).append('\n');
        if (got != want) {
            throw new IllegalStateException(name + Arrays.toString(args) + " answered " + got + ", due is " + want);
        }
        return got;
    }

    private void askForAll() throws ReflectiveOperationException {
        for (int what = 0; what < 7; what++) {
            ask("rule", what);
            ask("count", what);
        }
        for (int i = 0; i < 5; i++) {
            for (int what = 0; what < 5; what++) {
                ask("one", i, what);
                ask("stone", i, what);
                ask("debt", i, what);
            }
        }
        for (int t = 0; t < 6; t++) {
            ask("price", t);
        }
        ask("fault");
        ask("torn");
    }

    private int upTo(int n) {
        return random.nextInt(n + 1);
    }

    private String number(int low, int high) {
        int v = low + upTo(high - low);
        return (v < 10 && upTo(9) == 0 ? "0" : "") + v;
    }

    private String line() {
        String kind = new String[] {"plain", "flint", "slate", "soap"}[upTo(3)];
        switch (upTo(8)) {
            case 0: return "oven " + number(0, 9) + " " + number(5, 99) + ";";
            case 1: return "wind " + number(0, 10) + ";";
            case 2: return "price " + number(0, 5) + " " + number(1, 9) + ";";
            case 3: case 4: return "debt " + number(0, 3) + " " + number(0, 3) + " " + number(0, 99) + ";";
            case 5: return "man " + number(0, 5) + " " + number(0, 9) + ";";
            default: return kind + " " + number(0, 99) + " " + number(0, 3) + ";";
        }
    }

    /** Mostly texts that are taken: a wrong line is tried out on a purse of its own and left out. */
    private String text() {
        int men = 2 + upTo(2);
        StringBuilder text = new StringBuilder();
        for (int i = 0; i < men; i++) {
            text.append("man ").append(number(0, 5)).append(' ').append(number(0, 9)).append(';');
        }
        for (int i = 0; i < 14; i++) {
            String line = line();
            if (text.length() + line.length() <= 160 && Check.tell(new TepidPurse(), text + line) > 0) {
                text.append(line);
            }
        }
        return text.toString();
    }

    private String spoilt(String text) {
        StringBuilder s = new StringBuilder(text);
        int times = upTo(2);
        for (int i = 0; i < times && s.length() > 0; i++) {
            int at = upTo(s.length() - 1);
            String signs = "0123456789;; amnoz{A/:`\n\t";
            switch (upTo(2)) {
                case 0: s.deleteCharAt(at); break;
                case 1: s.setCharAt(at, signs.charAt(upTo(signs.length() - 1))); break;
                default: s.insert(at, signs.charAt(upTo(signs.length() - 1))); break;
            }
        }
        return s.toString();
    }

    private void tell(String text) throws ReflectiveOperationException {
        for (int i = 0; i < text.length(); i++) {
            ask("feed", text.charAt(i));
        }
        ask("text");
        askForAll();
    }

    /** An argument: mostly one that may be right there, sometimes a wild one. */
    private int about(int high) {
        return upTo(19) == 0 ? WILD[upTo(WILD.length - 1)] : upTo(high);
    }

    private int[] arguments(String name) {
        int row = upTo(1) == 0 ? about(2) : 10 + upTo(5);
        switch (name) {
            case "feed": return new int[] {about(127)};
            case "end": return new int[] {about(5)};
            case "rule": case "count": return new int[] {about(7)};
            case "one": case "debt": return new int[] {about(4), about(4)};
            case "stone": return new int[] {about(5), about(5)};
            case "dress": return new int[] {about(3), about(1), about(10)};
            case "warm": return new int[] {about(4), about(1), about(upTo(1) == 0 ? 3 : 99)};
            case "set": return new int[] {about(2), about(upTo(1) == 0 ? 10 : 99)};
            case "ask": return new int[] {about(5), about(9)};
            case "owe": return new int[] {about(3), about(99)};
            case "go": return new int[] {about(upTo(3) == 0 ? 60 : 4)};
            case "pay": return new int[] {about(4), about(3)};
            case "after": case "wool": case "walks": return new int[] {about(4), about(upTo(1) == 0 ? 60 : 12)};
            case "way": return new int[] {about(4), about(3), row};
            case "fewest": return new int[] {about(3), row};
            case "settle": return new int[] {row};
            case "buys": case "spend": return new int[] {about(4), about(2)};
            case "lasts": case "mean": return new int[] {about(4), about(6), about(1)};
            case "see": return new int[] {about(20), about(99)};
            case "forget": return new int[] {about(4)};
            case "fits": return new int[] {about(3)};
            case "drift": return new int[] {random.nextInt(), about(60), about(1)};
            case "keep": case "back": return new int[] {about(1)};
            case "sheet": return new int[] {about(3), about(2), about(40)};
            case "lay": return new int[] {about(3), about(20), upTo(2) == 0 ? random.nextInt() : about(4)};
            case "read": return new int[] {about(3), about(2), about(8), about(4)};
            case "price": return new int[] {about(5)};
            case "halve": case "heat": case "cold": return new int[] {about(4)};
            default: return new int[0];
        }
    }

    /** A sheet of payments that may go through. */
    private void laySheet() throws ReflectiveOperationException {
        int k = upTo(3);
        int lane = upTo(2);
        int cells = upTo(12);
        ask("sheet", k, lane, cells);
        for (int i = 0; i < cells; i++) {
            ask("lay", k, i, upTo(i % 2 == 0 ? 3 : 2) + (upTo(2) << 16));
        }
        ask("read", k, upTo(5) == 0 ? upTo(2) : lane, upTo(5) == 0 ? about(12) : 2 * upTo(2), upTo(4));
    }

    /** Something that fits: how warm a stone will be in some purse. */
    private void seeWhatFits() throws ReflectiveOperationException {
        if (program.rule(0) > 0 && program.rule(1) > 0) {
            int s = upTo(program.rule(1) - 1);
            int wool = program.one(upTo(program.rule(0) - 1), 0);
            int base = new int[] {6, 4, 8, 3}[program.stone(s, 0)];
            int w = program.stone(s, 1);
            int t = upTo(20);
            for (int i = 0; i < t; i++) {
                w = Twin.cool(w, Math.max(1, base - wool));
            }
            ask("see", t, w);
            ask("fits", upTo(3));
        }
    }

    /** Near the last minute, with the stones as warm as before. */
    private void growLate() throws ReflectiveOperationException {
        int[] warmths = new int[5];
        for (int s = 0; s < 5; s++) {
            warmths[s] = program.stone(s, 1);
        }
        for (int i = 0; i < 16; i++) {
            ask("go", 60);
        }
        ask("go", upTo(38));
        for (int s = 0; s < 5; s++) {
            ask("warm", s, 1, warmths[s]);
        }
        askForAll();
    }

    private void run() throws ReflectiveOperationException {
        askForAll();
        tell(text());
        if (upTo(5) == 0) {
            growLate();
        }
        for (int i = 0; i < CALLS; i++) {
            int chance = upTo(59);
            if (chance == 0) {
                tell(spoilt(text()));
            } else if (chance < 4) {
                laySheet();
            } else if (chance < 7) {
                seeWhatFits();
            } else {
                String name = SPELT[upTo(SPELT.length - 1)];
                if (!name.equals("text") || upTo(4) == 0) {
                    ask(name, arguments(name));
                }
            }
            askForAll();
        }
    }

    public static void main(String[] args) throws Exception {
        int wrong = 0;
        for (int seed = 0; seed < RUNS && wrong < 3; seed++) {
            TwinTest test = new TwinTest(seed);
            try {
                test.run();
            } catch (Exception e) {
                wrong++;
                System.out.println("TwinTest: seed " + seed + ": " + (e.getCause() == null ? e : e.getCause()));
                if (args.length > 0) {
                    System.out.println(test.story);
                }
            }
        }
        System.out.println("TwinTest: " + RUNS + " runs, " + wrong + " not as due");
        if (wrong != 0) {
            System.exit(1);
        }
    }
}
