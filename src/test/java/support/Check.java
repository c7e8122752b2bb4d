/** Compares answers with those that are due; a test ends with finish(). */
final class Check {
    private static int wrong = 0;
    private static int seen = 0;

    static void due(String call, long got, long want) {
        seen++;
        if (got != want) {
            wrong++;
            System.out.println(call + " answered " + got + ", due is " + want);
        }
    }

    static int wrong() {
        return wrong;
    }

    static int seen() {
        return seen;
    }

    static void holds(String what, boolean truth) {
        due(what, truth ? 1 : 0, 1);
    }

    /** A new object with the churchyard that the text tells. */
    static GravediggerPaid yard(String text) {
        GravediggerPaid x = new GravediggerPaid();
        come(x, text);
        return x;
    }

    /** A new object with grave 0, HARD 0, so many inches deep, and a lady AT it. */
    static GravediggerPaid dug(int inches) {
        GravediggerPaid x = yard("g0;mo900;a00;");
        for (int left = inches / 10; left > 0; left -= 60) {
            x.days(Math.min(60, left));
        }
        x.turn(0, 5, 0);
        if (inches % 10 > 0) {
            x.days(inches % 10);
        }
        due("dug", x.grave(0, 1), inches);
        return x;
    }

    /** The text comes to an object, which must find no fault. */
    static void come(GravediggerPaid x, String text) {
        int answer = tell(x, text);
        holds("yard of " + text + " without fault, not " + answer, answer > 0);
    }

    static int tell(GravediggerPaid x, String text) {
        for (int i = 0; i < text.length(); i++) {
            x.letter(text.charAt(i));
        }
        return x.yard();
    }

    static void row(GravediggerPaid x, int... numbers) {
        x.clear();
        for (int v : numbers) {
            x.row(v);
        }
    }

    static void finish() {
        System.out.println(seen + " answers, " + wrong + " not as due");
        if (wrong > 0 || seen == 0) {
            System.exit(1);
        }
    }
}
