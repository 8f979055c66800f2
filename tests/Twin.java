import java.math.BigInteger;
import java.util.ArrayList;
import java.util.Arrays;
import java.util.List;

/**
 * The document told a second time, as plainly and as slowly as may be: every search tries all there is,
 * every question copies the whole state. TwinTest compares the program with it.
 */
final class Twin {
    static final int BAD = -1, STATE = -2, FULL = -3, NONE = -4;

    record Man(int wool, int place) { }

    record Rock(String kind, int warmth, int owner) { }

    record Due(int who, int whom, int amount) { }

    record Sight(int minutes, int warmth) { }

    /** All that an image holds; copied whole whenever something is tried. */
    static final class All {
        List<Man> men = new ArrayList<>();
        List<Rock> rocks = new ArrayList<>();
        List<Due> dues = new ArrayList<>();
        int ovenPlace = 0, heat = 50, wind = 2, minute = 0;
        int[] prices = {1, 1, 1, 1, 1, 1};

        All copy() {
            All c = new All();
            c.men.addAll(men);
            c.rocks.addAll(rocks);
            c.dues.addAll(dues);
            c.ovenPlace = ovenPlace;
            c.heat = heat;
            c.wind = wind;
            c.minute = minute;
            c.prices = prices.clone();
            return c;
        }
    }

    private static final List<String> KINDS = List.of("plain", "flint", "slate", "soap");

    private All all = new All();
    private final All[] images = new All[2];
    private String tape = "";
    private int fault = 0;
    private List<Sight> seen = new ArrayList<>();
    private final Object[] sheets = new Object[4];
    private int torn = 0;

    // ---- cooling

    static int base(String kind) {
        int plain = 6;
        int flint = plain - 2;
        return switch (kind) {
            case "plain" -> plain;
            case "flint" -> flint;
            case "slate" -> plain + 2;
            default -> flint - 1;
        };
    }

    static int rate(String kind, int wool) {
        int r = base(kind) - wool;
        return r < 1 ? 1 : r;
    }

    static int cool(int w, int rate) {
        int left = w - (1 + (int) Math.floor(w * rate / 20.0));
        return left < 0 ? 0 : left;
    }

    static int rate(All a, int s) {
        return rate(a.rocks.get(s).kind(), a.men.get(a.rocks.get(s).owner()).wool());
    }

    /** One minute for all but one stone (-1: for all). */
    static void minute(All a, int spared) {
        for (int s = 0; s < a.rocks.size(); s++) {
            if (s != spared) {
                setWarmth(a, s, cool(a.rocks.get(s).warmth(), rate(a, s)));
            }
        }
        a.minute++;
    }

    static void minutes(All a, int n) {
        for (int i = 0; i < n; i++) {
            minute(a, -1);
        }
    }

    static void setWarmth(All a, int s, int w) {
        Rock r = a.rocks.get(s);
        a.rocks.set(s, new Rock(r.kind(), w, r.owner()));
    }

    static int apart(All a, int p, int q) {
        return Math.abs(a.men.get(p).place() - a.men.get(q).place());
    }

    static int paid(All a, int s, int p) {
        int giver = a.rocks.get(s).owner();
        minutes(a, apart(a, giver, p) + 1);
        Rock r = a.rocks.get(s);
        a.rocks.set(s, new Rock(r.kind(), r.warmth(), p));
        if (r.warmth() >= 5) {
            for (int d = 0; d < a.dues.size(); d++) {
                Due due = a.dues.get(d);
                if (due.who() == giver && due.whom() == p && due.amount() > 0) {
                    a.dues.set(d, new Due(giver, p, Math.max(0, due.amount() - r.warmth())));
                    break;
                }
            }
        }
        return r.warmth();
    }

    private boolean isOne(int p) {
        return p >= 0 && p < all.men.size();
    }

    private boolean isStone(int s) {
        return s >= 0 && s < all.rocks.size();
    }

    private boolean isDebt(int d) {
        return d >= 0 && d < all.dues.size();
    }

    private static boolean in(int v, int low, int high) {
        return low <= v && v <= high;
    }

    // ---- the text

    int feed(int c) {
        if (c < 0 || c > 127) {
            return BAD;
        }
        if (tape.length() == 160) {
            return FULL;
        }
        tape += (char) c;
        return tape.length();
    }

    int end(int n) {
        if (n < 0 || n > tape.length()) {
            return BAD;
        }
        int had = tape.length();
        tape = tape.substring(0, n);
        return had;
    }

    /** A fault that was met, thrown to leave the reading at once. */
    private static final class Met extends RuntimeException {
        private static final long serialVersionUID = 1L;
        final int which;
        final int where;

        Met(int which, int where) {
            this.which = which;
            this.where = where;
        }
    }

    private int at;
    private int began;

    /** The next token; "" is the end. */
    private String token() {
        while (at < tape.length() && tape.charAt(at) == ' ') {
            at++;
        }
        began = at;
        if (at == tape.length()) {
            return "";
        }
        String rest = tape.substring(at);
        String name = rest.replaceFirst("(?s)^([a-z]*).*$", "$1");
        String figures = rest.replaceFirst("(?s)^([0-9]*).*$", "$1");
        String found = !name.isEmpty() ? name : !figures.isEmpty() ? figures : rest.startsWith(";") ? ";" : "";
        if (found.isEmpty() || figures.length() > 2) {
            throw new Met(1, began);
        }
        at += found.length();
        return found;
    }

    private int number(int low, int high) {
        String t = token();
        if (!t.matches("[0-9]+")) {
            throw new Met(2, began);
        }
        int v = Integer.parseInt(t);
        if (v < low || v > high) {
            throw new Met(3, began);
        }
        return v;
    }

    private void semicolon() {
        if (!token().equals(";")) {
            throw new Met(2, began);
        }
    }

    private static void unless(boolean fine, int which, int where) {
        if (!fine) {
            throw new Met(which, where);
        }
    }

    private void line(String name, All a, List<String> told) {
        if (name.equals("man")) {
            unless(a.men.size() < 4, 5, began);
            a.men.add(new Man(number(0, 5), number(0, 9)));
        } else if (KINDS.contains(name)) {
            unless(a.rocks.size() < 5, 5, began);
            a.rocks.add(new Rock(name, number(0, 99), number(0, 3)));
        } else if (name.equals("oven")) {
            unless(!told.contains("oven"), 4, began);
            a.ovenPlace = number(0, 9);
            a.heat = number(5, 99);
        } else if (name.equals("wind")) {
            unless(!told.contains("wind"), 4, began);
            a.wind = number(0, 10);
        } else if (name.equals("price")) {
            int t = number(0, 5);
            unless(!told.contains("price" + t), 4, began);
            told.add("price" + t);
            a.prices[t] = number(1, 9);
        } else if (name.equals("debt")) {
            unless(a.dues.size() < 4, 5, began);
            int who = number(0, 3);
            int whom = number(0, 3);
            unless(who != whom, 3, began);
            a.dues.add(new Due(who, whom, number(0, 99)));
        } else {
            throw new Met(2, began);
        }
        told.add(name);
        semicolon();
    }

    private int lines(All a) {
        List<String> told = new ArrayList<>();
        int lines = 0;
        at = 0;
        for (String name = token(); !name.isEmpty(); name = token()) {
            line(name, a, told);
            lines++;
        }
        for (Rock r : a.rocks) {
            unless(r.owner() < a.men.size(), 6, tape.length());
        }
        for (Due d : a.dues) {
            unless(d.who() < a.men.size() && d.whom() < a.men.size(), 6, tape.length());
        }
        return lines;
    }

    int text() {
        All a = new All();
        int answer;
        try {
            answer = lines(a);
            fault = 0;
            all = a;
            seen.clear();
            images[0] = null;
            images[1] = null;
        } catch (Met met) {
            fault = met.which;
            answer = -10 - met.where;
        }
        tape = "";
        return answer;
    }

    int fault() {
        return fault;
    }

    // ---- what there is

    int rule(int what) {
        int[] answers = {all.men.size(), all.rocks.size(), all.dues.size(), all.ovenPlace, all.heat, all.wind, all.minute};
        return in(what, 0, 6) ? answers[what] : BAD;
    }

    int one(int p, int what) {
        if (!isOne(p) || !in(what, 0, 3)) {
            return BAD;
        }
        int bits = 0;
        int sum = 0;
        for (int s = 0; s < all.rocks.size(); s++) {
            if (all.rocks.get(s).owner() == p) {
                bits += (int) Math.pow(2, s);
                sum += all.rocks.get(s).warmth();
            }
        }
        return new int[] {all.men.get(p).wool(), all.men.get(p).place(), bits, sum}[what];
    }

    int stone(int s, int what) {
        if (!isStone(s) || !in(what, 0, 4)) {
            return BAD;
        }
        Rock r = all.rocks.get(s);
        return new int[] {KINDS.indexOf(r.kind()), r.warmth(), r.owner(), rate(all, s), r.warmth() > 4 ? 1 : 0}[what];
    }

    int debt(int d, int what) {
        if (!isDebt(d) || !in(what, 0, 2)) {
            return BAD;
        }
        Due due = all.dues.get(d);
        return new int[] {due.who(), due.whom(), due.amount()}[what];
    }

    int price(int t) {
        return in(t, 0, 5) ? all.prices[t] : BAD;
    }

    // ---- what is changed

    int dress(int p, int what, int v) {
        if (!isOne(p) || !in(what, 0, 1) || !in(v, 0, what == 0 ? 5 : 9)) {
            return BAD;
        }
        Man was = all.men.get(p);
        all.men.set(p, what == 0 ? new Man(v, was.place()) : new Man(was.wool(), v));
        return what == 0 ? was.wool() : was.place();
    }

    int warm(int s, int what, int v) {
        if (!isStone(s) || !in(what, 0, 1) || !in(v, 0, what == 0 ? 3 : 99)) {
            return BAD;
        }
        Rock was = all.rocks.get(s);
        all.rocks.set(s, what == 0
            ? new Rock(KINDS.get(v), was.warmth(), was.owner())
            : new Rock(was.kind(), v, was.owner()));
        return what == 0 ? KINDS.indexOf(was.kind()) : was.warmth();
    }

    int set(int what, int v) {
        int[] low = {0, 5, 0};
        int[] high = {10, 99, 9};
        if (!in(what, 0, 2) || !in(v, low[what], high[what])) {
            return BAD;
        }
        int[] was = {all.wind, all.heat, all.ovenPlace};
        int[] becomes = was.clone();
        becomes[what] = v;
        all.wind = becomes[0];
        all.heat = becomes[1];
        all.ovenPlace = becomes[2];
        return was[what];
    }

    int ask(int t, int v) {
        if (!in(t, 0, 5) || !in(v, 1, 9)) {
            return BAD;
        }
        int was = all.prices[t];
        all.prices[t] = v;
        return was;
    }

    int owe(int d, int v) {
        if (!isDebt(d) || !in(v, 0, 99)) {
            return BAD;
        }
        Due was = all.dues.get(d);
        all.dues.set(d, new Due(was.who(), was.whom(), v));
        return was.amount();
    }

    int halve(int s) {
        if (!isStone(s)) {
            return BAD;
        }
        Rock r = all.rocks.get(s);
        if (r.warmth() < 5) {
            return STATE;
        }
        if (all.rocks.size() == 5) {
            return FULL;
        }
        setWarmth(all, s, Math.max(0, r.warmth() / 2 - 1));
        all.rocks.add(all.rocks.get(s));
        return all.rocks.size();
    }

    // ---- time

    private int warmOnes() {
        return (int) all.rocks.stream().filter(r -> r.warmth() >= 5).count();
    }

    int go(int n) {
        if (!in(n, 0, 60)) {
            return BAD;
        }
        if (all.minute + n >= 1000) {
            return FULL;
        }
        minutes(all, n);
        return warmOnes();
    }

    private static int tryPay(All a, int s, int p) {
        if (s < 0 || s >= a.rocks.size() || p < 0 || p >= a.men.size()) {
            return BAD;
        }
        int giver = a.rocks.get(s).owner();
        if (giver == p) {
            return STATE;
        }
        if (a.minute + apart(a, giver, p) + 1 >= 1000) {
            return FULL;
        }
        return paid(a, s, p);
    }

    int pay(int s, int p) {
        return tryPay(all, s, p);
    }

    private static int toOven(All a, int s) {
        return Math.abs(a.men.get(a.rocks.get(s).owner()).place() - a.ovenPlace);
    }

    int heat(int s) {
        if (!isStone(s)) {
            return BAD;
        }
        int far = toOven(all, s);
        if (all.minute + far + 1 + far >= 1000) {
            return FULL;
        }
        minutes(all, far);
        minute(all, s);
        if (all.rocks.get(s).warmth() < all.heat) {
            setWarmth(all, s, all.heat);
        }
        minutes(all, far);
        return all.rocks.get(s).warmth();
    }

    private static int behind(All a, int s, int n) {
        All copy = a.copy();
        minutes(copy, n);
        return copy.rocks.get(s).warmth();
    }

    int after(int s, int n) {
        return isStone(s) && in(n, 0, 60) ? behind(all, s, n) : BAD;
    }

    int cold(int s) {
        if (!isStone(s)) {
            return BAD;
        }
        int n = 0;
        while (behind(all, s, n) >= 5) {
            n++;
        }
        return n;
    }

    // ---- ways, debts

    /** All rows of distinct numbers below n, up to a length, shorter ones first, then by numbers. */
    static List<List<Integer>> rows(int n, int longest) {
        List<List<Integer>> rows = new ArrayList<>();
        rows.add(List.of());
        for (int i = 0; i < rows.size(); i++) {
            if (rows.get(i).size() < longest) {
                for (int v = 0; v < n; v++) {
                    if (!rows.get(i).contains(v)) {
                        List<Integer> row = new ArrayList<>(rows.get(i));
                        row.add(v);
                        rows.add(row);
                    }
                }
            }
        }
        return rows;
    }

    int way(int s, int p, int what) {
        if (!isStone(s) || !isOne(p) || !(in(what, 0, 1) || in(what, 10, 13))) {
            return BAD;
        }
        if (all.rocks.get(s).owner() == p) {
            return STATE;
        }
        List<Integer> best = null;
        int most = -1;
        int minutes = 0;
        for (List<Integer> row : rows(all.men.size(), 4)) {
            if (row.isEmpty() || row.get(row.size() - 1) != p || row.contains(all.rocks.get(s).owner())) {
                continue;
            }
            All copy = all.copy();
            for (int to : row) {
                paid(copy, s, to);
            }
            if (copy.rocks.get(s).warmth() > most) {
                most = copy.rocks.get(s).warmth();
                minutes = copy.minute - all.minute;
                best = row;
            }
        }
        if (what < 10) {
            return what == 0 ? most : minutes;
        }
        return what - 10 < best.size() ? best.get(what - 10) : NONE;
    }

    private static List<Integer> fewestOf(All a, int d) {
        Due due = a.dues.get(d);
        for (List<Integer> row : rows(a.rocks.size(), 5)) {
            boolean his = row.stream().allMatch(s -> a.rocks.get(s).owner() == due.who());
            if (his) {
                All copy = a.copy();
                for (int s : row) {
                    paid(copy, s, due.whom());
                }
                if (copy.dues.get(d).amount() == 0) {
                    return row;
                }
            }
        }
        return null;
    }

    int fewest(int d, int what) {
        if (!isDebt(d) || !(what == 0 || in(what, 10, 14))) {
            return BAD;
        }
        List<Integer> row = fewestOf(all, d);
        if (row == null) {
            return NONE;
        }
        if (what == 0) {
            return row.size();
        }
        return what - 10 < row.size() ? row.get(what - 10) : NONE;
    }

    int settle(int what) {
        int n = all.dues.size();
        if (!(what == 0 || in(what, 10, 9 + n))) {
            return BAD;
        }
        int most = -1;
        List<Integer> best = null;
        for (List<Integer> order : rows(n, n)) {
            if (order.size() < n) {
                continue;
            }
            All copy = all.copy();
            for (int d : order) {
                List<Integer> row = fewestOf(copy, d);
                if (row != null) {
                    for (int s : row) {
                        paid(copy, s, copy.dues.get(d).whom());
                    }
                }
            }
            int cleared = 0;
            for (int d = 0; d < n; d++) {
                if (all.dues.get(d).amount() != 0 && copy.dues.get(d).amount() == 0) {
                    cleared++;
                }
            }
            if (cleared > most) {
                most = cleared;
                best = order;
            }
        }
        return what == 0 ? most : best.get(what - 10);
    }

    // ---- what is to be done

    int wool(int s, int n) {
        if (!isStone(s) || !in(n, 0, 60)) {
            return BAD;
        }
        for (int wool = 0; wool <= 5; wool++) {
            All copy = all.copy();
            int owner = copy.rocks.get(s).owner();
            copy.men.set(owner, new Man(wool, copy.men.get(owner).place()));
            if (behind(copy, s, n) >= 5) {
                return wool;
            }
        }
        return NONE;
    }

    /** Which warmths, free at a minute with so many walks, can be: tried minute by minute, none left out. */
    int walks(int s, int n) {
        if (!isStone(s) || !in(n, 0, 60)) {
            return BAD;
        }
        if (all.rocks.get(s).warmth() < 5) {
            return NONE;
        }
        int rate = rate(all, s);
        int far = toOven(all, s);
        int[][] least = new int[n + 1][100];
        for (int[] row : least) {
            Arrays.fill(row, 1000);
        }
        least[0][all.rocks.get(s).warmth()] = 0;
        for (int t = 0; t < n; t++) {
            for (int w = 5; w < 100; w++) {
                if (least[t][w] == 1000) {
                    continue;
                }
                int stays = cool(w, rate);
                if (stays >= 5) {
                    least[t + 1][stays] = Math.min(least[t + 1][stays], least[t][w]);
                }
                int left = w;
                int then = t;
                boolean fine = true;
                for (int i = 0; i < 2 * far + 1 && then < n && fine; i++) {
                    left = i == far ? Math.max(left, all.heat) : cool(left, rate);
                    then++;
                    fine = left >= 5;
                }
                if (fine) {
                    least[then][left] = Math.min(least[then][left], least[t][w] + 1);
                }
            }
        }
        int answer = Arrays.stream(least[n], 5, 100).min().getAsInt();
        return answer == 1000 ? NONE : answer;
    }

    int buys(int s, int what) {
        if (!isStone(s) || !in(what, 0, 1)) {
            return BAD;
        }
        int best = 0;
        for (int t = 1; t <= 5; t++) {
            if (behind(all, s, t) / all.prices[t] > behind(all, s, best) / all.prices[best]) {
                best = t;
            }
        }
        return what == 0 ? best : behind(all, s, best) / all.prices[best];
    }

    // ---- odds, as fractions of big numbers

    record Part(BigInteger over, BigInteger under) {
        static Part of(long v) {
            return new Part(BigInteger.valueOf(v), BigInteger.ONE);
        }

        Part plus(Part o) {
            return new Part(over.multiply(o.under).add(o.over.multiply(under)), under.multiply(o.under)).lowest();
        }

        Part tenths(int n) {
            return new Part(over.multiply(BigInteger.valueOf(n)), under.multiply(BigInteger.TEN)).lowest();
        }

        Part lowest() {
            BigInteger g = over.gcd(under);
            return new Part(over.divide(g), under.divide(g));
        }

        int compare(Part o) {
            return over.multiply(o.under).compareTo(o.over.multiply(under));
        }

        long ask(int what) {
            return (what == 0 ? over : under).longValueExact();
        }
    }

    /** Over all rows of windy and calm minutes. */
    private Part overWinds(int s, int n, boolean wantsWarmth) {
        Part sum = Part.of(0);
        for (int winds = 0; winds < 1 << n; winds++) {
            int w = all.rocks.get(s).warmth();
            for (int i = 0; i < n; i++) {
                w = cool(w, rate(all, s));
                if ((winds >> i & 1) == 1) {
                    w = cool(w, rate(all, s));
                }
            }
            Part odds = Part.of(wantsWarmth ? w : w >= 5 ? 1 : 0);
            for (int i = 0; i < n; i++) {
                odds = odds.tenths((winds >> i & 1) == 1 ? all.wind : 10 - all.wind);
            }
            sum = sum.plus(odds);
        }
        return sum;
    }

    long lasts(int s, int n, int what) {
        return isStone(s) && in(n, 0, 6) && in(what, 0, 1) ? overWinds(s, n, false).ask(what) : BAD;
    }

    long mean(int s, int n, int what) {
        return isStone(s) && in(n, 0, 6) && in(what, 0, 1) ? overWinds(s, n, true).ask(what) : BAD;
    }

    private Part later(int w, int rate, int t) {
        Part calm = bought(cool(w, rate), rate, t + 1).tenths(10 - all.wind);
        Part windy = bought(cool(cool(w, rate), rate), rate, t + 1).tenths(all.wind);
        return calm.plus(windy);
    }

    private Part bought(int w, int rate, int t) {
        Part now = Part.of(w / all.prices[t]);
        return t == 5 || now.compare(later(w, rate, t)) >= 0 ? now : later(w, rate, t);
    }

    long spend(int s, int what) {
        if (!isStone(s) || !in(what, 0, 2)) {
            return BAD;
        }
        int w = all.rocks.get(s).warmth();
        if (what == 2) {
            return Part.of(w / all.prices[0]).compare(later(w, rate(all, s), 0)) >= 0 ? 1 : 0;
        }
        return bought(w, rate(all, s), 0).ask(what);
    }

    // ---- whose it was

    int see(int t, int w) {
        if (!in(t, 0, 20) || !in(w, 0, 99)) {
            return BAD;
        }
        if (seen.size() == 6) {
            return FULL;
        }
        seen.add(new Sight(t, w));
        return seen.size();
    }

    int forget(int n) {
        if (n < 0 || n > seen.size()) {
            return BAD;
        }
        int were = seen.size();
        seen = new ArrayList<>(seen.subList(0, n));
        return were;
    }

    int fits(int what) {
        if (!in(what, 0, 3)) {
            return BAD;
        }
        List<Integer> pairs = new ArrayList<>();
        int stones = 0;
        int people = 0;
        for (int s = 0; s < all.rocks.size(); s++) {
            for (int p = 0; p < all.men.size(); p++) {
                All copy = all.copy();
                copy.rocks.set(s, new Rock(all.rocks.get(s).kind(), all.rocks.get(s).warmth(), p));
                int stone = s;
                if (seen.stream().allMatch(x -> behind(copy, stone, x.minutes()) == x.warmth())) {
                    pairs.add(10 * s + p);
                    stones |= 1 << s;
                    people |= 1 << p;
                }
            }
        }
        int first = pairs.isEmpty() ? NONE : pairs.get(0);
        return new int[] {pairs.size(), first, stones, people}[what];
    }

    // ---- by a seed

    int drift(int seed, int n, int what) {
        if (!in(n, 1, 60) || !in(what, 0, 1)) {
            return BAD;
        }
        if (all.rocks.isEmpty()) {
            return STATE;
        }
        BigInteger state = BigInteger.valueOf(seed);
        All copy = all.copy();
        int sum = 0;
        for (int i = 0; i < n; i++) {
            int[] drawn = new int[2];
            for (int j = 0; j < 2; j++) {
                state = state.multiply(BigInteger.valueOf(1103515245)).add(BigInteger.valueOf(12345));
                state = state.mod(BigInteger.ONE.shiftLeft(64));
                int bits = state.shiftRight(16).mod(BigInteger.valueOf(1 << 15)).intValueExact();
                drawn[j] = bits % (j == 0 ? all.rocks.size() : all.men.size());
            }
            if (copy.rocks.get(drawn[0]).owner() == drawn[1]) {
                minutes(copy, 1);
            } else {
                sum += paid(copy, drawn[0], drawn[1]);
            }
        }
        return what == 0 ? sum : copy.minute - all.minute;
    }

    // ---- images, sheets

    int keep(int k) {
        if (!in(k, 0, 1)) {
            return BAD;
        }
        int was = images[k] == null ? 0 : 1;
        images[k] = all.copy();
        return was;
    }

    int back(int k) {
        if (!in(k, 0, 1)) {
            return BAD;
        }
        if (images[k] == null) {
            return STATE;
        }
        all = images[k].copy();
        return all.minute;
    }

    int sheet(int k, int lane, int n) {
        if (!in(k, 0, 3) || !in(lane, 0, 2) || n > 40) {
            return BAD;
        }
        try {
            sheets[k] = lane == 0 ? new byte[n] : lane == 1 ? new short[n] : new int[n];
        } catch (NegativeArraySizeException e) {
            return -14;
        }
        return 1;
    }

    int lay(int k, int i, int v) {
        if (!in(k, 0, 3)) {
            return BAD;
        }
        try {
            if (sheets[k] instanceof byte[] row) {
                row[i] = (byte) v;
            } else if (sheets[k] instanceof short[] row) {
                row[i] = (short) v;
            } else {
                ((int[]) sheets[k])[i] = v;
            }
        } catch (NullPointerException e) {
            return -11;
        } catch (ArrayIndexOutOfBoundsException e) {
            return -12;
        }
        return 1;
    }

    /** Here the machine itself finds the faults. */
    int read(int k, int lane, int f, int n) {
        if (!in(k, 0, 3) || !in(lane, 0, 2) || !in(n, 0, 20)) {
            return BAD;
        }
        All copy = all.copy();
        int done = 0;
        int found = 0;
        try {
            for (int i = 0; i < n; i++) {
                byte[] bytes = lane == 0 ? (byte[]) sheets[k] : null;
                short[] shorts = lane == 1 ? (short[]) sheets[k] : null;
                int[] ints = lane == 2 ? (int[]) sheets[k] : null;
                int a = f + 2 * i;
                int s = lane == 0 ? bytes[a] : lane == 1 ? shorts[a] : ints[a];
                int p = lane == 0 ? bytes[a + 1] : lane == 1 ? shorts[a + 1] : ints[a + 1];
                if (tryPay(copy, s, p) < 0) {
                    return -20 - i;
                }
                done++;
            }
        } catch (NullPointerException e) {
            found = 1;
        } catch (ArrayIndexOutOfBoundsException e) {
            found = 2;
        } catch (ClassCastException e) {
            found = 3;
        }
        all = copy;
        torn = found;
        return done;
    }

    int torn() {
        return torn;
    }

    int count(int what) {
        switch (what) {
            case 0: return seen.size();
            case 1: return (images[0] == null ? 0 : 1) + (images[1] == null ? 0 : 1);
            case 2: return tape.length();
            case 3: return sheets[0] == null ? NONE : java.lang.reflect.Array.getLength(sheets[0]);
            case 4: return warmOnes();
            case 5: return all.rocks.stream().mapToInt(Rock::warmth).sum();
            case 6: return all.dues.stream().mapToInt(Due::amount).sum();
            default: return BAD;
        }
    }
}
