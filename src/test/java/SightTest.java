/** Promises 25 to 27 and 29 to 31: tears, graves alone, level, shares, winters, the mean. */
public final class SightTest {
    public static void main(String[] args) {
        tears();
        alone();
        level();
        share();
        winter();
        mean();
        Check.finish();
    }

    private static void tears() {
        GravediggerPaid x = Check.yard("g0;mm099;mh500;mh500;mh400;");
        Check.due("nobody at a grave", x.tears(), -9);
        x.goes(3, 0);
        x.goes(2, 0);
        Check.due("he of the most", x.tears(), 2);
        x.turn(2, 1, 4);
        Check.due("the only more", x.tears(), 2);
        x.goes(1, 0);
        x.turn(1, 1, 4);
        Check.due("the least of several", x.tears(), 1);
        x.goes(0, 0);
        Check.due("grief", x.tears(), 0);
        Check.due("new object", new GravediggerPaid().tears(), -9);
        Check.due("even if it is nothing", Check.yard("g0;mm000;mm000;a10;").tears(), 1);
    }

    private static void alone() {
        GravediggerPaid x = Check.yard("g0;g0;g0;g0;g0;mh900;mh000;mh000;ml000;a00;a11;a21;a33;");
        Check.due("alone", x.alone(0), 1 + 8);
        Check.due("bare", x.alone(1), 4 + 16);
        Check.due("none deep", x.alone(2), 0);
        x.days(2);
        Check.due("ten is not deep", x.alone(2), 0);
        x.days(4);
        Check.due("twelve is", x.alone(2), 1 + 2);
        Check.due("other", x.alone(3), -2);
        Check.due("other below", x.alone(-1), -2);
    }

    private static void level() {
        GravediggerPaid x = new GravediggerPaid();
        Check.due("without", x.level(), 0);
        Check.come(x, "g0;mh900;a00;d03;");
        Check.due("one", x.level(), 0);
        Check.come(x, "g0;g0;a01;d01;");
        Check.due("most less least", x.level(), 15);
    }

    private static void share() {
        GravediggerPaid x = Check.yard("g0;g0;mh500;mh900;mm040;mm000;mm000;a00;a10;a20;a31;");
        Check.due("3 of 12 above", x.share(0, 0), 1);
        Check.due("3 of 12 below", x.share(0, 1), 4);
        Check.due("5 of 12 above", x.share(1, 0), 5);
        Check.due("5 of 12 below", x.share(1, 1), 12);
        Check.due("4 of 12 below", x.share(2, 1), 3);
        Check.due("0 of none above", x.share(3, 0), 0);
        Check.due("0 of none below", x.share(3, 1), 1);
        x.goes(3, 0);
        Check.due("0 of 12 above", x.share(3, 0), 0);
        Check.due("0 of 12 below", x.share(3, 1), 1);
        x.goes(0, 1);
        Check.due("all above", x.share(0, 0), 1);
        Check.due("all below", x.share(0, 1), 1);
        Check.due("nobody first", x.share(5, 2), 4000000000000000001L);
        Check.due("other before state", x.share(4, 2), 4000000000000000002L);
        Check.due("other below", x.share(4, -1), 4000000000000000002L);
        Check.due("state", x.share(4, 0), 4000000000000000003L);
    }

    private static void winter() {
        GravediggerPaid x = Check.yard("g0;g0;g5;ml000;mm098;a00;a12;");
        fraction(x, 0, 0, 2, 0, 1, 1);
        fraction(x, 0, 0, 2, 1, 0, 1);
        fraction(x, 0, 1, 2, 1, 1, 2);
        fraction(x, 0, 1, 20, 1, 19, 20);
        fraction(x, 0, 2, 3, 1, 8, 9);
        fraction(x, 0, 2, 3, 2, 4, 9);
        fraction(x, 0, 3, 2, 2, 1, 2);
        fraction(x, 0, 7, 20, 7, 893871739, 1280000000);
        fraction(x, 0, 7, 20, 1, 1279999999, 1280000000);
        fraction(x, 0, 7, 20, 8, 0, 1);
        fraction(x, 0, 7, 2, 0, 1, 1);
        fraction(x, 1, 7, 2, 1, 0, 1);
        fraction(x, 1, 7, 2, 0, 1, 1);
        // Weeping 9, 9, 9, 9, 9, 8, 8 (98 and 2 less a day): grief is less in rain, too.
        fraction(x, 2, 7, 2, 10, 1, 128);
        fraction(x, 2, 7, 2, 8, 8, 128);
        fraction(x, 2, 7, 2, 7, 29, 128);
        fraction(x, 2, 6, 2, 8, 1, 64);
        fraction(x, 2, 2, 5, 1, 24, 25);
        fraction(x, 2, 2, 5, 3, 16, 25);
        // 5, 5, then nothing: the third day does not make up for rain.
        fraction(Check.yard("g4;mw052;a00;"), 0, 3, 2, 1, 3, 4);
        Check.due("nobody first", x.winter(3, -1, 1, -1, 2), 4000000000000000001L);
        Check.due("n below", x.winter(0, -1, 21, 100, 2), 4000000000000000004L);
        Check.due("v below", x.winter(0, 8, 21, -1, 2), 4000000000000000004L);
        Check.due("t below", x.winter(0, 8, 1, 100, 2), 4000000000000000004L);
        Check.due("n above", x.winter(0, 8, 2, 0, 2), 4000000000000000006L);
        Check.due("t above", x.winter(0, 7, 21, 0, 2), 4000000000000000006L);
        Check.due("v above", x.winter(0, 7, 20, 100, 2), 4000000000000000006L);
        Check.due("other", x.winter(0, 7, 20, 99, 2), 4000000000000000002L);
        Check.due("other below", x.winter(0, 7, 20, 99, -1), 4000000000000000002L);
        GravediggerPaid bottom = Check.yard("g0;mh900;mh900;mh900;mh900;a00;a10;a20;a30;d49;");
        Check.due("19 left", bottom.grave(0, 1), 980);
        fraction(bottom, 0, 1, 2, 19, 1, 2);
        fraction(bottom, 0, 7, 2, 20, 0, 1);
    }

    private static void fraction(GravediggerPaid x, int g, int n, int t, int v, long a, long b) {
        long common = java.math.BigInteger.valueOf(a).gcd(java.math.BigInteger.valueOf(b)).longValue();
        String call = "winter " + g + " " + n + " " + t + " " + v;
        Check.due(call + " above", x.winter(g, n, t, v, 0), a / common);
        Check.due(call + " below", x.winter(g, n, t, v, 1), b / common);
    }

    private static void mean() {
        GravediggerPaid x = new GravediggerPaid();
        Check.due("none above", x.mean(0), 0);
        Check.due("none below", x.mean(1), 1);
        Check.come(x, "g0;g0;g0;g0;");
        Check.due("nothing above", x.mean(0), 0);
        Check.due("nothing below", x.mean(1), 1);
        Check.come(x, "mh900;a00;d02;");
        Check.due("10 by 4 above", x.mean(0), 5);
        Check.due("10 by 4 below", x.mean(1), 2);
        Check.due("other", x.mean(2), 4000000000000000002L);
        Check.due("other below", x.mean(-1), 4000000000000000002L);
    }
}
