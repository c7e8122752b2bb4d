import java.lang.reflect.InvocationTargetException;
import java.lang.reflect.Method;
import java.util.Random;

/** Runs of calls by lot (the seeds are told), each answer compared with the model's. */
public final class ModelTest {
    private static final int RUNS = 400;
    private static final int CALLS = 512;
    /** The least and the greatest that some call takes, and one beyond. */
    private static final int[] EDGES = {
        Integer.MIN_VALUE, -10, -9, -2, -1, 0, 1, 2, 3, 4, 5, 6, 7, 8, 9, 10, 11, 12, 15, 16, 17, 19, 20, 21,
        29, 30, 31, 49, 50, 59, 60, 61, 95, 96, 97, 98, 99, 100, 255, 256, 998, 999, 1000, Integer.MAX_VALUE,
    };

    public static void main(String[] args) throws ReflectiveOperationException {
        int runs = args.length > 0 ? Integer.parseInt(args[0]) : RUNS;
        Method[] methods = GravediggerPaid.class.getDeclaredMethods();
        java.util.Arrays.sort(methods, (p, q) -> p.getName().compareTo(q.getName()));
        for (int seed = 0; seed < runs; seed++) {
            new ModelTest(seed).run(methods);
        }
        Check.finish();
    }

    private final int seed;
    private final Random lot;
    private final GravediggerPaid x = new GravediggerPaid();
    private final Model model = new Model();
    private int calls = 0;

    private ModelTest(int seed) {
        this.seed = seed;
        lot = new Random(seed);
    }

    private void run(Method[] methods) throws ReflectiveOperationException {
        if (seed % 3 > 0) {
            fill();
        }
        if (seed % 3 == 2) {
            grow();
        }
        while (calls < CALLS) {
            if (lot.nextInt(calls < 20 ? 3 : 60) == 0) {
                tell();
            } else if (lot.nextInt(25) == 0) {
                trueRow();
            } else {
                Method m = methods[lot.nextInt(methods.length)];
                if (java.lang.reflect.Modifier.isPublic(m.getModifiers())) {
                    call(m, arguments(m));
                }
            }
        }
    }

    /** Five graves and six mourners, some of them nowhere. */
    private void fill() throws ReflectiveOperationException {
        StringBuilder text = new StringBuilder();
        for (int g = 0; g < 5; g++) {
            text.append('g').append(digit(2) * digit(10)).append(';');
        }
        for (int m = 0; m < 6; m++) {
            text.append('m').append("mhowfl".charAt(lot.nextInt(6)));
            text.append(digit(10)).append(digit(10)).append(digit(10)).append(';');
        }
        for (int m = 0; m < 6; m++) {
            if (lot.nextInt(6) > 0) {
                text.append('a').append(m).append(digit(5)).append(';');
            }
        }
        for (char c : text.toString().toCharArray()) {
            call("letter", c);
        }
        call("yard");
    }

    /** Many days go by, so that some graves come near 999 inches or the day comes near 999. */
    private void grow() throws ReflectiveOperationException {
        for (int i = lot.nextInt(18); i > 0; i--) {
            call("days", 60);
            call("grieves", lot.nextInt(6), 99);
        }
    }

    /** Mostly good statements, some of them torn. */
    private void tell() throws ReflectiveOperationException {
        StringBuilder text = new StringBuilder();
        for (int i = lot.nextInt(6); i >= 0; i--) {
            switch (lot.nextInt(9)) {
                case 0: case 1: text.append('g').append(digit(10)); break;
                case 2: case 3: text.append('m').append("mhowfl".charAt(lot.nextInt(6)))
                    .append(digit(10)).append(digit(10)).append(digit(10)); break;
                case 4: text.append('a').append(digit(4)).append(digit(3)); break;
                case 5: text.append('n').append(digit(4)); break;
                case 6: text.append('t').append(digit(4)); break;
                case 7: text.append('h').append(digit(3)).append(digit(10)); break;
                default: text.append('d').append(digit(3)).append(digit(10));
            }
            text.append(';');
        }
        if (lot.nextInt(5) == 0) {
            text.setCharAt(lot.nextInt(text.length()), "gmantdh;09x".charAt(lot.nextInt(11)));
        }
        if (lot.nextInt(8) == 0) {
            text.setLength(lot.nextInt(text.length()));
        }
        for (char c : text.toString().toCharArray()) {
            call("letter", c);
        }
        call("yard");
    }

    private int digit(int below) {
        return lot.nextInt(below);
    }

    /** A row that somebody may have wept, so that not every row is false. */
    private void trueRow() throws ReflectiveOperationException {
        if (model.now.graves.isEmpty() || model.now.mourners.isEmpty()) {
            return;
        }
        int g = lot.nextInt(model.now.graves.size());
        int m = lot.nextInt(model.now.mourners.size());
        Model.Yard y = model.now.copy();
        boolean alone = lot.nextBoolean();
        y.mourners.forEach(other -> other.at = alone ? -9 : other.at);
        y.mourners.get(m).at = g;
        call("clear");
        for (int i = lot.nextInt(17); i >= 0; i--) {
            call("row", y.graves.get(g).deep);
            y.pass(1, false);
        }
        call("whoWept", g);
        if (!alone) {
            call("goes", m, g);
        }
        call("whatIs", m, 0);
        call("whatIs", m, 1);
        if (lot.nextInt(4) == 0) {
            call("clear");
            for (int i = 0; i < model.now.mourners.size(); i++) {
                call("row", model.now.mourners.get(i).grief);
            }
            call("judge");
        }
    }

    private int[] arguments(Method m) {
        int[] a = new int[m.getParameterCount()];
        for (int i = 0; i < a.length; i++) {
            a[i] = argument(m.getName(), i);
        }
        return a;
    }

    private int argument(String name, int i) {
        switch (lot.nextInt(40)) {
            case 0: return -1;
            case 1: return lot.nextInt(200) - 50;
            case 2: return lot.nextInt();
            case 3: case 4: case 5: return EDGES[lot.nextInt(EDGES.length)];
            default:
        }
        boolean aboutMourner = "mourner goes leaves hears grieves turn griefThen seat bring onion two share whatIs"
            .contains(name);
        boolean aboutGrave = "grave hardens graveThen deep fewest winter whoWept".contains(name);
        if (i == 0 && aboutMourner) {
            return lot.nextInt(name.equals("seat") ? 7 : 6) - (name.equals("seat") ? 1 : 0);
        }
        if (i == 0 && aboutGrave || i == 1 && name.equals("goes")) {
            return lot.nextInt(model.now.graves.size() + 1);
        }
        switch (name + i) {
            case "letter0": return lot.nextInt(256);
            case "count0": return lot.nextInt(18);
            case "grave1": case "mourner1": case "turn1": case "first0": return lot.nextInt(6);
            case "graveThen2": case "send1": case "share1": case "winter4": case "mean0":
            case "whatIs1": case "lots2": return lot.nextInt(2);
            case "alone0": return lot.nextInt(3);
            case "two1": return lot.nextInt(6);
            case "hardens1": case "turn2": return lot.nextInt(10);
            case "winter1": return lot.nextInt(8);
            case "winter2": return 2 + lot.nextInt(19);
            case "winter3": return lot.nextInt(12);
            case "lots0": return lot.nextInt(21);
            case "lots1": return lot.nextInt();
            case "days0": return lot.nextInt(10);
            case "grieves1": case "deep1": case "fewest1": case "row0": return lot.nextInt(100);
            default: return lot.nextInt(31);
        }
    }

    private void call(String name, int... a) throws ReflectiveOperationException {
        Class<?>[] types = new Class<?>[a.length];
        java.util.Arrays.fill(types, int.class);
        call(GravediggerPaid.class.getMethod(name, types), a);
    }

    private void call(Method m, int[] a) throws ReflectiveOperationException {
        if (calls >= CALLS) {
            return;
        }
        calls++;
        Object[] given = new Object[a.length];
        for (int i = 0; i < a.length; i++) {
            given[i] = a[i];
        }
        int[] five = java.util.Arrays.copyOf(a, 5);
        long got;
        try {
            got = ((Number) m.invoke(x, given)).longValue();
        } catch (InvocationTargetException thrown) {
            System.out.println(m.getName() + " threw " + thrown.getCause());
            got = Long.MIN_VALUE;
        }
        long want = model.call(m.getName(), five[0], five[1], five[2], five[3], five[4]);
        String told = java.util.Arrays.toString(a);
        Check.due("seed " + seed + " call " + calls + ": " + m.getName() + told, got, want);
    }
}
