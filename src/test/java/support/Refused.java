import java.util.function.ToLongFunction;

/** Refused calls: each answers the number due, is counted once, and changes nothing else. */
final class Refused {
    static final int NOBODY = -1;
    static final int OTHER = -2;
    static final int STATE = -3;
    static final int BELOW = -4;
    static final int ROOM = -6;
    static final int LEAST = Integer.MIN_VALUE;
    static final int GREATEST = Integer.MAX_VALUE;

    /** On an object that has a row and letters, too, behind the churchyard of the text. */
    static void due(String text, String call, ToLongFunction<GravediggerPaid> f, int number) {
        on(busy(text), call, f, number, number);
    }

    /** As onion() tells it. */
    static void onion(String text, String call, ToLongFunction<GravediggerPaid> f, int number) {
        on(busy(text), call, f, number, 1000000000L - number);
    }

    /** As the calls tell it that answer longs. */
    static void told(String text, String call, ToLongFunction<GravediggerPaid> f, int number) {
        on(busy(text), call, f, number, 4000000000000000000L - number);
    }

    static void by(GravediggerPaid x, String call, ToLongFunction<GravediggerPaid> f, int number) {
        on(x, call, f, number, number);
    }

    private static void on(GravediggerPaid x, String call, ToLongFunction<GravediggerPaid> f,
            int number, long told) {
        String before = state(x);
        int[] counts = counts(x);
        Check.due(call, f.applyAsLong(x), told);
        Check.holds(call + " changes nothing", state(x).equals(before));
        counts[-number]++;
        for (int i = 1; i <= 6; i++) {
            Check.due(call + ", refusals -" + i, x.count(10 + i), counts[i]);
        }
    }

    private static GravediggerPaid busy(String text) {
        GravediggerPaid x = new GravediggerPaid();
        if (!text.isEmpty()) {
            Check.come(x, text);
        }
        x.row(3);
        x.row(99);
        x.letter('g');
        return x;
    }

    private static int[] counts(GravediggerPaid x) {
        int[] counts = new int[7];
        for (int i = 1; i <= 6; i++) {
            counts[i] = x.count(10 + i);
        }
        return counts;
    }

    /** All that the face tells of the state without a refusal. */
    static String state(GravediggerPaid x) {
        StringBuilder s = new StringBuilder();
        for (int what = 0; what <= 7; what++) {
            s.append(x.count(what)).append(' ');
        }
        for (int g = 0; g < x.count(0); g++) {
            for (int what = 0; what <= 2; what++) {
                s.append(x.grave(g, what)).append(' ');
            }
        }
        for (int m = 0; m < x.count(1); m++) {
            for (int what = 0; what <= 3; what++) {
                s.append(x.mourner(m, what)).append(' ');
            }
        }
        return s.toString();
    }
}
