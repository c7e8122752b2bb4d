import java.math.BigInteger;
import java.util.ArrayList;
import java.util.List;
import java.util.function.Function;
import java.util.function.ToIntFunction;
import java.util.regex.Matcher;
import java.util.regex.Pattern;

/** The document once more, in its slowest form: what ModelTest compares the class with. */
final class Model {
    /** A refusal on its way out of a call. */
    static final class Refused extends RuntimeException {
        final int number;

        Refused(int number) {
            super(null, null, false, false);
            this.number = number;
        }
    }

    static final class Grave {
        int hard;
        int deep;
        int wet;

        void soak(int w) {
            wet += w;
            while (wet >= hard + 1) {
                wet -= hard + 1;
                deep = deep == 999 ? 999 : deep + 1;
            }
        }
    }

    static final class Mourner {
        char kind;
        int figure;
        int grief;
        int at = -9;

        int weeps() {
            int hired = figure / 2 + 1;
            switch (kind) {
                case 'm': return grief / 10;
                case 'h': return hired;
                case 'o': return hired * 2;
                case 'w': return grief >= 50 ? grief / 10 : 0;
                case 'f': return grief / 10 + figure / 3;
                default: return 1;
            }
        }

        void fade() {
            grief -= kind == 'm' || kind == 'w' ? 2 : kind == 'f' ? 1 : 0;
            grief = grief < 0 ? 0 : grief;
        }

        void told() {
            grief += kind == 'm' ? 20 : kind == 'o' ? 5 : kind == 'f' || kind == 'l' ? 30 : 0;
            grief = grief > 99 ? 99 : grief;
        }
    }

    static final class Yard {
        final List<Grave> graves = new ArrayList<>();
        final List<Mourner> mourners = new ArrayList<>();
        int day;

        Yard copy() {
            Yard y = new Yard();
            for (Grave g : graves) {
                Grave c = new Grave();
                c.hard = g.hard;
                c.deep = g.deep;
                c.wet = g.wet;
                y.graves.add(c);
            }
            for (Mourner m : mourners) {
                Mourner c = new Mourner();
                c.kind = m.kind;
                c.figure = m.figure;
                c.grief = m.grief;
                c.at = m.at;
                y.mourners.add(c);
            }
            y.day = day;
            return y;
        }

        Yard pass(int n, boolean rain) {
            for (int i = 0; i < n; i++) {
                day++;
                for (Mourner m : mourners) {
                    if (m.at >= 0 && !rain) {
                        graves.get(m.at).soak(m.weeps());
                    }
                }
                mourners.forEach(Mourner::fade);
            }
            return this;
        }

        int pay() {
            return graves.stream().mapToInt(g -> g.deep / 12).sum();
        }

        int inches() {
            return graves.stream().mapToInt(g -> g.deep).sum();
        }
    }

    static final String KINDS = "mhowfl";
    static final Pattern STATEMENT =
        Pattern.compile("g(\\d);|m([mhowfl])(\\d)(\\d\\d);|a(\\d)(\\d);|n(\\d);|t(\\d);|h(\\d)(\\d);|d(\\d\\d);");
    static final String[] FORMS = {"g0;", "mK000;", "a00;", "n0;", "t0;", "h00;", "d00;"};

    Yard now = new Yard();
    Yard image;
    String text = "";
    List<Integer> row = new ArrayList<>();
    final int[] refusals = new int[17];

    /** The answer of a call by its name; refusals are told as the call tells them. */
    long call(String name, int a, int b, int c, int d, int e) {
        try {
            return answer(name, a, b, c, d, e);
        } catch (Refused r) {
            refusals[10 - r.number]++;
            switch (name) {
                case "onion": return 1000000000L - r.number;
                case "share": case "winter": case "mean": return 4000000000000000000L - r.number;
                default: return r.number;
            }
        }
    }

    private static void ask(boolean good, int number) {
        if (!good) {
            throw new Refused(number);
        }
    }

    private Grave grave(int g) {
        ask(g >= 0 && g < now.graves.size(), -1);
        return now.graves.get(g);
    }

    private Mourner mourner(int m) {
        ask(m >= 0 && m < now.mourners.size(), -1);
        return now.mourners.get(m);
    }

    private static void range(int v, int least, int most) {
        ask(v >= least, -4);
        ask(v <= most, -6);
    }

    private static void what(int what, int most) {
        ask(what >= 0 && what <= most, -2);
    }

    private long answer(String name, int a, int b, int c, int d, int e) {
        switch (name) {
            case "letter":
                range(a, 0, 255);
                ask(text.length() < 96, -6);
                text += (char) a;
                return text.length();
            case "yard": {
                String told = text;
                text = "";
                return yard(told);
            }
            case "grave": {
                Grave g = grave(a);
                what(b, 5);
                return new int[] {g.hard, g.deep, g.wet, g.deep / 12, weeping(a), foot(a)}[b];
            }
            case "mourner": {
                Mourner m = mourner(a);
                what(b, 4);
                return new int[] {KINDS.indexOf(m.kind), m.figure, m.grief, m.at, m.weeps()}[b];
            }
            case "goes": {
                Mourner m = mourner(a);
                grave(b);
                int was = m.at;
                m.at = b;
                return was;
            }
            case "leaves": {
                Mourner m = mourner(a);
                ask(m.at != -9, -3);
                int was = m.at;
                m.at = -9;
                return was;
            }
            case "hears":
                mourner(a).told();
                return mourner(a).grief;
            case "grieves": {
                Mourner m = mourner(a);
                range(b, 0, 99);
                int was = m.grief;
                m.grief = b;
                return was;
            }
            case "hardens": {
                Grave g = grave(a);
                range(b, 0, 9);
                int was = g.hard;
                g.hard = b;
                return was;
            }
            case "turn": {
                Mourner m = mourner(a);
                what(b, 5);
                range(c, 0, 9);
                int was = KINDS.indexOf(m.kind) * 10 + m.figure;
                m.kind = KINDS.charAt(b);
                m.figure = c;
                return was;
            }
            case "days":
                range(a, 1, 60);
                ask(now.day + a <= 999, -6);
                return now.pass(a, false).pay();
            case "image":
                image = now.copy();
                return now.day;
            case "on":
                ask(image != null, -3);
                now = image.copy();
                return now.day;
            case "row":
                range(a, 0, 99);
                ask(row.size() < 16, -6);
                row.add(a);
                return row.size();
            case "clear": {
                int had = row.size();
                row.clear();
                return had;
            }
            case "judge": {
                int first = -9;
                for (int i = row.size() - 1; i >= 0; i--) {
                    boolean so = i < now.mourners.size() && now.mourners.get(i).grief == row.get(i);
                    first = so ? first : i;
                }
                row.clear();
                return first;
            }
            case "count":
                return count(a);
            default:
                return inThought(name, a, b, c, d, e);
        }
    }

    private int count(int what) {
        switch (what) {
            case 0: return now.graves.size();
            case 1: return now.mourners.size();
            case 2: return now.day;
            case 3: return now.pay();
            case 4: return now.inches();
            case 5: return now.mourners.stream().mapToInt(m -> m.grief).sum();
            case 6: return row.size();
            case 7: return text.length();
            default: return what >= 11 && what <= 16 ? refusals[what] : -9;
        }
    }

    private long inThought(String name, int a, int b, int c, int d, int e) {
        switch (name) {
            case "graveThen": {
                grave(a);
                range(b, 0, 60);
                what(c, 1);
                Grave g = now.copy().pass(b, false).graves.get(a);
                return c == 0 ? g.deep : g.wet;
            }
            case "griefThen":
                mourner(a);
                range(b, 0, 60);
                return now.copy().pass(b, false).mourners.get(a).grief;
            case "payThen":
                range(a, 0, 60);
                return now.copy().pass(a, false).pay();
            case "deep":
                grave(a);
                range(b, 0, 99);
                return firstDay(y -> y.graves.get(a).deep >= b);
            case "first":
                what(a, 4);
                return first(a);
            case "seat":
                if (a != -1) {
                    mourner(a);
                }
                return seat(a);
            case "fewest":
                grave(a);
                ask(b >= 0 && c >= 0, -4);
                ask(b <= 99 && c <= 30, -6);
                return fewest(a, b, c);
            case "tell": {
                range(a, 1, 30);
                return best(now.mourners.size(), true, i -> {
                    Yard y = now.copy();
                    if (i >= 0) {
                        y.mourners.get(i).told();
                    }
                    return y.pass(a, false).inches();
                });
            }
            case "send": {
                range(a, 1, 30);
                what(b, 1);
                ToIntFunction<Integer> left = i -> {
                    Yard y = now.copy();
                    if (i >= 0 && y.mourners.get(i).at < 0) {
                        return -1;
                    }
                    if (i >= 0) {
                        y.mourners.get(i).at = -9;
                    }
                    return y.pass(a, false).inches();
                };
                int who = best(now.mourners.size(), false, i -> i < 0 ? -1 : left.applyAsInt(i));
                return who < 0 || b == 0 ? who : left.applyAsInt(-1) - left.applyAsInt(who);
            }
            case "bring":
                mourner(a);
                range(b, 0, 30);
                return best(now.graves.size(), true, i -> {
                    Yard y = now.copy();
                    if (i >= 0) {
                        y.mourners.get(a).at = i;
                    }
                    return y.pass(b, false).pay();
                });
            case "change": {
                range(a, 0, 30);
                int n = now.mourners.size();
                return best(n < 2 ? 0 : 10 * n, true, i -> {
                    Yard y = now.copy();
                    if (i >= 0) {
                        int p = i / 10;
                        int q = i % 10;
                        if (q <= p || q >= n) {
                            return -1;
                        }
                        int was = y.mourners.get(p).at;
                        y.mourners.get(p).at = y.mourners.get(q).at;
                        y.mourners.get(q).at = was;
                    }
                    return y.pass(a, false).pay();
                });
            }
            case "onion": {
                mourner(a);
                range(b, 1, 30);
                Yard y = now.copy();
                y.mourners.get(a).kind = 'o';
                return y.pass(b, false).inches() - now.copy().pass(b, false).inches();
            }
            default:
                return looks(name, a, b, c, d, e);
        }
    }

    private long looks(String name, int a, int b, int c, int d, int e) {
        switch (name) {
            case "tears":
                return best(now.mourners.size(), false, i ->
                    i < 0 || now.mourners.get(i).at < 0 ? -1 : now.mourners.get(i).weeps());
            case "alone": {
                what(a, 2);
                int bits = 0;
                for (int g = 0; g < now.graves.size(); g++) {
                    int at = g;
                    long here = now.mourners.stream().filter(m -> m.at == at).count();
                    boolean is = a == 0 ? here == 1 : a == 1 ? here == 0 : now.graves.get(g).deep > 11;
                    bits += is ? 1 << g : 0;
                }
                return bits;
            }
            case "level":
                return now.graves.stream().mapToInt(g -> g.deep).max().orElse(0)
                    - now.graves.stream().mapToInt(g -> g.deep).min().orElse(0);
            case "two": {
                mourner(a);
                mourner(b);
                ask(a != b, -1);
                range(c, 1, 30);
                ask(mourner(a).at >= 0 && mourner(b).at >= 0, -3);
                return two(a, b, c);
            }
            case "share":
                mourner(a);
                what(b, 1);
                ask(mourner(a).at >= 0, -3);
                return part(BigInteger.valueOf(mourner(a).weeps()), weeping(mourner(a).at), b);
            case "winter": {
                grave(a);
                ask(b >= 0 && c >= 2 && d >= 0, -4);
                ask(b <= 7 && c <= 20 && d <= 99, -6);
                what(e, 1);
                BigInteger ways = winter(now.copy(), a, b, c, d + grave(a).deep);
                return part(ways, BigInteger.valueOf(c).pow(b).longValueExact(), e);
            }
            case "mean":
                what(a, 1);
                return part(BigInteger.valueOf(now.inches()), now.graves.size(), a);
            case "whoWept":
                grave(a);
                return bits(now.mourners.size(), a, i -> {
                    Yard y = now.copy();
                    y.mourners.forEach(m -> m.at = -9);
                    y.mourners.get(i).at = a;
                    return y;
                });
            case "whatIs": {
                Mourner m = mourner(a);
                what(b, 1);
                return m.at < 0 ? 0 : bits(b == 0 ? 6 : 10, m.at, i -> {
                    Yard y = now.copy();
                    if (b == 0) {
                        y.mourners.get(a).kind = KINDS.charAt(i);
                    } else {
                        y.mourners.get(a).figure = i;
                    }
                    return y;
                });
            }
            case "lots":
                range(a, 1, 20);
                what(c, 1);
                ask(!now.graves.isEmpty(), -3);
                return lots(a, b, c);
            default:
                throw new IllegalArgumentException(name);
        }
    }

    /** The index from 0 of the greatest value, above that of -1 if it must be more than else. */
    private static int best(int n, boolean moreThanElse, ToIntFunction<Integer> value) {
        int best = -9;
        int most = moreThanElse ? value.applyAsInt(-1) : -1;
        for (int i = 0; i < n; i++) {
            int v = value.applyAsInt(i);
            if (v > most) {
                most = v;
                best = i;
            }
        }
        return best;
    }

    private int weeping(int g) {
        return now.mourners.stream().filter(m -> m.at == g).mapToInt(Mourner::weeps).sum();
    }

    private int foot(int g) {
        int goal = now.graves.get(g).deep + 1;
        while (goal % 12 != 0) {
            goal++;
        }
        if (goal > 999) {
            return -9;
        }
        Yard y = now.copy();
        for (int n = 1; n <= 99; n++) {
            for (Mourner m : y.mourners) {
                if (m.at == g) {
                    y.graves.get(g).soak(m.weeps());
                }
            }
            if (y.graves.get(g).deep >= goal) {
                return n;
            }
        }
        return -9;
    }

    private int firstDay(Function<Yard, Boolean> is) {
        for (int n = 0; n <= 60; n++) {
            if (is.apply(now.copy().pass(n, false))) {
                return n;
            }
        }
        return -9;
    }

    private int first(int what) {
        if (what == 2) {
            return firstDay(y -> y.mourners.stream().allMatch(m -> m.at < 0 || m.weeps() == 0));
        }
        int least = -9;
        int day = 61;
        for (int g = now.graves.size() - 1; g >= 0; g--) {
            int at = g;
            int value = what == 3 ? now.graves.get(g).deep : what == 4 ? -now.graves.get(g).deep
                : firstDay(y -> y.graves.get(at).deep - now.graves.get(at).deep >= 12);
            if (what > 2 ? least < 0 || value <= day : value >= 0 && value <= day) {
                least = g;
                day = value;
            }
        }
        return what == 1 ? (least < 0 ? -9 : day) : least;
    }

    private int seat(int mourner) {
        int n = now.graves.size();
        int k = now.mourners.size();
        if (n == 0) {
            return mourner < 0 ? 0 : -9;
        }
        int most = -1;
        int[] first = null;
        int[] at = new int[k];
        for (int left = (int) Math.pow(n, k); left > 0; left--) {
            int inches = 0;
            for (int g = 0; g < n; g++) {
                int tears = 0;
                boolean somebody = false;
                for (int m = 0; m < k; m++) {
                    somebody |= at[m] == g;
                    tears += at[m] == g ? now.mourners.get(m).weeps() : 0;
                }
                Grave grave = now.graves.get(g);
                inches += somebody ? (grave.wet + tears) / (grave.hard + 1) : 0;
            }
            if (inches > most) {
                most = inches;
                first = at.clone();
            }
            for (int m = k - 1; m >= 0 && ++at[m] == n; m--) {
                at[m] = 0;
            }
        }
        return mourner < 0 ? most : first[mourner];
    }

    private int fewest(int g, int v, int n) {
        for (int size = 0; size <= now.mourners.size(); size++) {
            for (int set = 0; set < 1 << now.mourners.size(); set++) {
                if (Integer.bitCount(set) == size) {
                    Yard y = now.copy();
                    for (int m = 0; m < y.mourners.size(); m++) {
                        y.mourners.get(m).at = (set & 1 << m) != 0 ? g : -9;
                    }
                    if (y.pass(n, false).graves.get(g).deep >= v) {
                        return set;
                    }
                }
            }
        }
        return -9;
    }

    private int two(int a, int b, int n) {
        int[][] has = new int[4][2];
        for (int pair = 0; pair < 4; pair++) {
            Yard y = now.copy();
            int[] who = {a, b};
            int[] told = {pair >> 1, pair & 1};
            for (int i = 0; i < 2; i++) {
                if (told[i] == 1) {
                    y.mourners.get(who[i]).told();
                }
            }
            y.pass(n, false);
            for (int i = 0; i < 2; i++) {
                int at = y.mourners.get(who[i]).at;
                has[pair][i] = y.graves.get(at).deep - now.graves.get(at).deep - 2 * told[i];
            }
        }
        for (int pair = 0; pair < 4; pair++) {
            if (has[pair][0] >= has[pair ^ 2][0] && has[pair][1] >= has[pair ^ 1][1]) {
                return (pair >> 1) * 10 + (pair & 1);
            }
        }
        return -9;
    }

    private static BigInteger winter(Yard y, int g, int n, int t, int goal) {
        if (n == 0) {
            return y.graves.get(g).deep >= goal ? BigInteger.ONE : BigInteger.ZERO;
        }
        return winter(y.copy().pass(1, true), g, n - 1, t, goal)
            .add(winter(y.copy().pass(1, false), g, n - 1, t, goal).multiply(BigInteger.valueOf(t - 1)));
    }

    private static long part(BigInteger above, long below, int part) {
        if (below == 0) {
            return part;
        }
        BigInteger gcd = above.gcd(BigInteger.valueOf(below));
        return (part == 0 ? above : BigInteger.valueOf(below)).divide(gcd).longValueExact();
    }

    private int bits(int n, int g, Function<Integer, Yard> make) {
        int bits = 0;
        for (int i = 0; i < n; i++) {
            Yard y = make.apply(i);
            boolean so = true;
            for (int v : row) {
                so &= y.graves.get(g).deep == v;
                y.pass(1, false);
            }
            bits |= so ? 1 << i : 0;
        }
        return bits;
    }

    private int lots(int n, int seed, int what) {
        int z = seed;
        int sum = 0;
        for (int i = 0; i < n; i++) {
            Yard y = now.copy();
            for (Mourner m : y.mourners) {
                z = z * 1664525 + 1013904223;
                m.at = ((z & 0x7fffffff) / 256) % y.graves.size();
                z = z * 1664525 + 1013904223;
                m.grief = ((z & 0x7fffffff) / 256) % 100;
            }
            y.pass(10, false);
            sum += what == 0 ? y.pay() : y.inches() - now.inches();
        }
        return sum;
    }

    private int yard(String told) {
        for (int end = 0; end <= told.length(); end++) {
            if (!canGoOn(told.substring(0, end))) {
                return -1000 - (end - 1);
            }
        }
        if (told.isEmpty() || !told.endsWith(";")) {
            return -1000 - told.length();
        }
        Yard y = now.copy();
        Matcher s = STATEMENT.matcher(told);
        int statements = 0;
        while (s.find()) {
            if (!comes(y, s.group())) {
                return -2000 - s.start();
            }
            statements++;
        }
        now = y;
        return statements;
    }

    /** Whether the text is statements and the beginning of one. */
    private static boolean canGoOn(String text) {
        String last = text.substring(text.lastIndexOf(';') + 1);
        String ahead = text.substring(0, text.length() - last.length());
        if (!ahead.isEmpty() && !ahead.matches("(?:" + STATEMENT.pattern() + ")*")) {
            return false;
        }
        String shape = last.replaceAll("[0-9]", "0").replaceAll("^m[mhowfl]", "mK");
        for (String form : FORMS) {
            if (form.startsWith(shape)) {
                return last.length() < 2 || last.charAt(0) != 'm' || shape.charAt(1) == 'K';
            }
        }
        return false;
    }

    private static boolean comes(Yard y, String s) {
        int one = Character.digit(s.charAt(1), 10);
        int other = Character.digit(s.charAt(2), 10);
        boolean mourner = one >= 0 && one < y.mourners.size();
        switch (s.charAt(0)) {
            case 'g': {
                Grave g = new Grave();
                g.hard = one;
                y.graves.add(g);
                return y.graves.size() <= 5;
            }
            case 'm': {
                Mourner m = new Mourner();
                m.kind = s.charAt(1);
                m.figure = other;
                m.grief = Integer.parseInt(s.substring(3, 5));
                y.mourners.add(m);
                return y.mourners.size() <= 6;
            }
            case 'a':
                if (mourner && other < y.graves.size()) {
                    y.mourners.get(one).at = other;
                    return true;
                }
                return false;
            case 'n':
                if (mourner) {
                    y.mourners.get(one).at = -9;
                }
                return mourner;
            case 't':
                if (mourner) {
                    y.mourners.get(one).told();
                }
                return mourner;
            case 'h':
                if (one < y.graves.size()) {
                    y.graves.get(one).hard = other;
                    return true;
                }
                return false;
            default: {
                int n = Integer.parseInt(s.substring(1, 3));
                if (n < 1 || n > 60 || y.day + n > 999) {
                    return false;
                }
                y.pass(n, false);
                return true;
            }
        }
    }
}
