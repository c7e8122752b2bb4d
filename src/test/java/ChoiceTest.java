/** Promises 18 to 24 and 28: who should weep where, the fewest, whom to tell, send, bring. */
public final class ChoiceTest {
    public static void main(String[] args) {
        seat();
        seatsTried("g9;g4;g7;g3;g5;mm037;mh500;mf622;mo100;mm061;ml000;", 6);
        seatsTried("g2;g3;g1;mm017;mm023;mh300;mf411;", 4);
        seatsTried("g9;g9;g9;g9;mh700;mh700;mh300;mm011;a01;a11;a22;d02;n0;h20;", 4);
        seatsTried("g4;g4;g4;g4;g4;mh300;mh300;mh000;mh000;mh300;mh000;", 6);
        fewest();
        tell();
        send();
        bring();
        change();
        onion();
        two();
        Check.finish();
    }

    private static void seat() {
        GravediggerPaid x = new GravediggerPaid();
        Check.due("no graves", x.seat(-1), 0);
        Check.due("nobody", x.seat(0), -1);
        Check.come(x, "mm050;");
        Check.due("without graves", x.seat(0), -9);
        Check.due("that", x.seat(-1), 0);
        Check.due("nobody below", x.seat(-2), -1);
        Check.come(x, "g4;g1;");
        Check.due("two inches", x.seat(-1), 2);
        Check.due("in the softer", x.seat(0), 1);
        x.hardens(1, 4);
        Check.due("one inch", x.seat(-1), 1);
        Check.due("the least grave", x.seat(0), 0);
        Check.come(x, "mm030;mm020;");
        Check.due("both fill", x.seat(-1), 2);
        Check.due("0 at", x.seat(0), 0);
        Check.due("1 at", x.seat(1), 0);
        Check.due("2 at", x.seat(2), 0);
        x.hardens(0, 5);
        Check.due("apart", x.seat(-1), 2);
        Check.due("0 apart", x.seat(0), 1);
        Check.due("1 with him", x.seat(1), 1);
        Check.due("2 with him", x.seat(2), 1);
        x.hardens(0, 4);
        x.grieves(2, 10);
        Check.due("none but together", x.seat(-1), 1);
        Check.due("the first such", x.seat(2), 0);
        GravediggerPaid held = Check.yard("g0;g9;mm099;mm000;a01;d01;n0;h10;");
        held.grieves(0, 0);
        Check.due("what it held comes by whom weeps nothing", held.seat(-1), 9);
        Check.due("the first at the dry one", held.seat(0), 0);
        Check.due("the second at the wet one", held.seat(1), 1);
        GravediggerPaid bottom = Check.yard("g0;mh900;mh900;mh900;mh900;a00;a10;a20;a30;d50;");
        Check.due("bottom", bottom.grave(0, 1), 999);
        Check.due("as if without an end", bottom.seat(-1), 20);
        Check.due("wherever they are", Check.yard("g0;mm090;").seat(-1), 9);
    }

    /** Every seating is tried on a fresh object by a day that goes by. */
    private static void seatsTried(String text, int mourners) {
        GravediggerPaid x = Check.yard(text);
        int graves = x.count(0);
        int most = -1;
        int first = 0;
        for (int code = 0; code < Math.pow(graves, mourners); code++) {
            GravediggerPaid y = new GravediggerPaid();
            Check.tell(y, text);
            int before = y.count(4);
            int rest = code;
            for (int m = mourners - 1; m >= 0; m--) {
                y.goes(m, rest % graves);
                rest /= graves;
            }
            y.days(1);
            if (y.count(4) - before > most) {
                most = y.count(4) - before;
                first = code;
            }
        }
        Check.due("most of " + text, x.seat(-1), most);
        for (int m = mourners - 1; m >= 0; m--) {
            Check.due(m + " of " + text, x.seat(m), first % graves);
            first /= graves;
        }
    }

    private static void fewest() {
        GravediggerPaid x = Check.yard("g0;g0;mh000;mh400;mh200;mh200;a01;a11;");
        Check.due("already", x.fewest(0, 0, 0), 0);
        Check.due("not now", x.fewest(0, 1, 0), -9);
        Check.due("one", x.fewest(0, 3, 1), 2);
        Check.due("one in two days", x.fewest(0, 3, 2), 2);
        Check.due("the least of several", x.fewest(0, 2, 1), 2);
        Check.due("anyone", x.fewest(0, 1, 1), 1);
        Check.due("two", x.fewest(0, 4, 1), 3);
        Check.due("two others", x.fewest(0, 5, 1), 6);
        Check.due("three", x.fewest(0, 7, 1), 14);
        Check.due("all", x.fewest(0, 8, 1), 15);
        Check.due("too few", x.fewest(0, 9, 1), -9);
        Check.due("in 30 days", x.fewest(0, 99, 30), 3);
        x.days(30);
        Check.due("deep without anyone", x.fewest(1, 99, 30), 0);
        Check.due("nobody first", x.fewest(2, -1, -1), -1);
        Check.due("v below", x.fewest(0, -1, 31), -4);
        Check.due("n below", x.fewest(0, 100, -1), -4);
        Check.due("v above", x.fewest(0, 100, 0), -6);
        Check.due("n above", x.fewest(0, 0, 31), -6);
    }

    private static void tell() {
        GravediggerPaid x = Check.yard("g0;g0;mm000;mm000;mf000;mh900;ml900;a00;a11;a31;");
        Check.due("two of a kind", x.tell(1), 0);
        Check.due("two more", x.tell(2), 0);
        x.leaves(0);
        Check.due("the other", x.tell(1), 1);
        x.goes(2, 0);
        Check.due("family", x.tell(1), 2);
        x.leaves(1);
        x.leaves(2);
        Check.due("more than else", x.tell(30), -9);
        Check.due("below", x.tell(0), -4);
        Check.due("above", x.tell(31), -6);
        Check.due("30", x.tell(30), -9);
        GravediggerPaid hard = Check.yard("g9;mm000;mf000;a00;a10;");
        Check.due("not yet an inch", hard.tell(2), -9);
        Check.due("nor yet", hard.tell(4), -9);
        Check.due("family first", hard.tell(5), 1);
    }

    private static void send() {
        GravediggerPaid x = Check.yard("g0;g2;mh900;mh400;mh400;a00;a10;");
        Check.due("who", x.send(1, 0), 1);
        Check.due("how many", x.send(1, 1), 3);
        x.goes(2, 1);
        Check.due("in the hard one", x.send(2, 0), 2);
        Check.due("two inches", x.send(2, 1), 2);
        x.leaves(2);
        x.turn(0, 1, 4);
        Check.due("the least of several", x.send(30, 0), 0);
        Check.due("90", x.send(30, 1), 90);
        x.leaves(0);
        x.leaves(1);
        Check.due("none", x.send(1, 0), -9);
        Check.due("none, how many", x.send(1, 1), -9);
        Check.due("below first", x.send(0, 2), -4);
        Check.due("above first", x.send(31, 2), -6);
        Check.due("other", x.send(1, 2), -2);
        Check.due("other below", x.send(1, -1), -2);
    }

    private static void bring() {
        GravediggerPaid x = Check.yard("g5;g2;g2;mh900;mh000;a00;");
        Check.due("today nothing", x.bring(0, 0), -9);
        Check.due("too early", x.bring(0, 7), -9);
        Check.due("the least of several", x.bring(0, 8), 1);
        Check.due("both late", x.bring(0, 30), 1);
        x.goes(0, 1);
        Check.due("already best", x.bring(0, 30), -9);
        Check.due("from nowhere", x.bring(1, 30), 1);
        Check.due("from nowhere in vain", x.bring(1, 5), -9);
        x.hardens(1, 1);
        Check.due("not where he is", x.bring(0, 30), -9);
        Check.due("nobody first", x.bring(2, -1), -1);
        Check.due("below", x.bring(0, -1), -4);
        Check.due("above", x.bring(0, 31), -6);
        x.goes(0, 2);
        x.hardens(0, 0);
        Check.due("grave 0", x.bring(0, 30), 0);
        Check.due("no graves", Check.yard("mm099;").bring(0, 30), -9);
    }

    private static void change() {
        GravediggerPaid x = Check.yard("g0;g9;mh000;mh900;mh900;a00;a11;");
        Check.due("today nothing", x.change(0), -9);
        Check.due("in three days", x.change(3), 1);
        x.goes(1, 0);
        x.goes(0, 1);
        Check.due("none better", x.change(3), -9);
        x.leaves(1);
        Check.due("from nowhere", x.change(3), -9);
        x.goes(0, 0);
        Check.due("one who is nowhere, the first", x.change(3), 1);
        x.turn(1, 1, 0);
        Check.due("the second", x.change(3), 2);
        Check.come(x, "mh900;mh900;");
        x.goes(3, 1);
        Check.due("still the first of several", x.change(3), 2);
        x.goes(0, 1);
        x.goes(1, 0);
        Check.due("10 the lesser", x.change(3), 12);
        Check.due("below", x.change(-1), -4);
        Check.due("above", x.change(31), -6);
        Check.due("0 and 30", x.change(30) > 0 ? 1 : 0, 1);
    }

    private static void onion() {
        GravediggerPaid x = Check.yard("g0;mh500;mf999;mo300;ml000;a00;a10;a20;");
        Check.due("twice", x.onion(0, 1), 3);
        Check.due("30 days", x.onion(0, 30), 90);
        Check.due("below 0", x.onion(1, 1), 10 - 12);
        Check.due("an onion is one", x.onion(2, 30), 0);
        Check.due("nowhere", x.onion(3, 30), 0);
        Check.due("nobody first", x.onion(4, 0), 1000000001);
        Check.due("nobody below", x.onion(-1, 31), 1000000001);
        Check.due("below", x.onion(0, 0), 1000000004);
        Check.due("above", x.onion(0, 31), 1000000006);
        Check.due("kind stays", x.mourner(0, 0), 1);
    }

    private static void two() {
        GravediggerPaid x = Check.yard("g0;g0;mm000;mm000;mh900;a00;a11;");
        Check.due("two inches for two: neither has more", x.two(0, 1, 1), 0);
        Check.due("three for two", x.two(0, 1, 2), 11);
        x.turn(0, 1, 0);
        Check.due("one alone", x.two(0, 1, 2), 1);
        Check.due("the other way", x.two(1, 0, 2), 10);
        x.hardens(1, 9);
        Check.due("nothing to have", x.two(0, 1, 2), 0);
        Check.due("one twice", x.two(0, 0, 0), -1);
        Check.due("nobody", x.two(0, 3, 0), -1);
        Check.due("nobody either", x.two(-1, 0, 0), -1);
        Check.due("below", x.two(0, 2, 0), -4);
        Check.due("above", x.two(0, 2, 31), -6);
        Check.due("nowhere", x.two(0, 2, 30), -3);
        Check.due("nowhere either", x.two(2, 0, 1), -3);
        GravediggerPaid same = Check.yard("g2;mf900;mf900;a00;a10;");
        // At one grave each has the inches of both: what one is told is the other's, too.
        Check.due("who needs not", same.two(0, 1, 1), bestPair(same, 1));
        for (int n = 1; n <= 30; n++) {
            Check.due("same grave " + n, same.two(0, 1, n), bestPair(same, n));
        }
    }

    /** The pair by the face alone: what each would have is tried and taken back. */
    private static int bestPair(GravediggerPaid x, int n) {
        int[][] has = new int[4][2];
        for (int pair = 0; pair < 4; pair++) {
            GravediggerPaid y = Check.yard("g2;mf900;mf900;a00;a10;");
            if (pair / 2 == 1) {
                y.hears(0);
            }
            if (pair % 2 == 1) {
                y.hears(1);
            }
            int inches = y.graveThen(0, n, 0);
            has[pair][0] = inches - 2 * (pair / 2);
            has[pair][1] = inches - 2 * (pair % 2);
        }
        for (int pair = 0; pair < 4; pair++) {
            if (has[pair][0] >= has[pair ^ 2][0] && has[pair][1] >= has[pair ^ 1][1]) {
                return 10 * (pair / 2) + pair % 2;
            }
        }
        return -9;
    }
}
