/** Promises 13 to 17: what will be, deep enough, the first, the driest. */
public final class MindTest {
    public static void main(String[] args) {
        graveThen();
        griefThen();
        payThen();
        deep();
        first();
        driest();
        nothingChanges();
        Check.finish();
    }

    private static void graveThen() {
        GravediggerPaid x = Check.yard("g2;mh900;a00;d01;");
        Check.due("now", x.graveThen(0, 0, 0), 1);
        Check.due("wet now", x.graveThen(0, 0, 1), 2);
        Check.due("60 days on", x.graveThen(0, 60, 0), 305 / 3);
        Check.due("wet then", x.graveThen(0, 60, 1), 305 % 3);
        Check.due("nobody first", x.graveThen(1, -1, 2), -1);
        Check.due("below", x.graveThen(0, -1, 2), -4);
        Check.due("above", x.graveThen(0, 61, 2), -6);
        Check.due("other", x.graveThen(0, 60, 2), -2);
        Check.due("other below", x.graveThen(0, 60, -1), -2);
    }

    private static void griefThen() {
        GravediggerPaid x = Check.yard("mm099;mf099;mh099;");
        Check.due("now", x.griefThen(0, 0), 99);
        Check.due("49 days on", x.griefThen(0, 49), 1);
        Check.due("50 days on", x.griefThen(0, 50), 0);
        Check.due("family", x.griefThen(1, 60), 39);
        Check.due("hired", x.griefThen(2, 60), 99);
        Check.due("nobody first", x.griefThen(3, -1), -1);
        Check.due("below", x.griefThen(0, -1), -4);
        Check.due("above", x.griefThen(0, 61), -6);
    }

    private static void payThen() {
        GravediggerPaid x = Check.yard("g0;g0;mh900;mh900;a00;a11;");
        Check.due("now", x.payThen(0), 0);
        Check.due("each by itself", x.payThen(3), 2);
        Check.due("five feet of each in 12 days", x.payThen(12), 10);
        Check.due("60", x.payThen(60), 50);
        Check.due("below", x.payThen(-1), -4);
        Check.due("above", x.payThen(61), -6);
    }

    private static void deep() {
        GravediggerPaid x = Check.yard("g0;g0;ml000;mh000;a00;a10;d01;");
        Check.due("0 inches", x.deep(0, 0), 0);
        Check.due("2 inches", x.deep(0, 2), 0);
        Check.due("3 inches", x.deep(0, 3), 1);
        Check.due("4 inches", x.deep(0, 4), 1);
        Check.due("99 inches", x.deep(0, 99), 49);
        Check.due("nobody there", x.deep(1, 1), -9);
        Check.due("none of it", x.deep(1, 0), 0);
        x.leaves(1);
        Check.due("62 inches", x.deep(0, 62), 60);
        Check.due("63 inches", x.deep(0, 63), -9);
        Check.due("nobody first", x.deep(2, -1), -1);
        Check.due("below", x.deep(0, -1), -4);
        Check.due("above", x.deep(0, 100), -6);
    }

    private static void first() {
        GravediggerPaid x = Check.yard("g0;g0;g0;ml000;mh200;mh200;a00;a11;a22;");
        Check.due("the least of several", x.first(0), 1);
        Check.due("when", x.first(1), 6);
        Check.due("hired never end", x.first(2), -9);
        x.days(1);
        Check.due("12 deeper than now", x.first(1), 6);
        GravediggerPaid slow = Check.yard("g4;ml000;a00;");
        Check.due("just within 60", slow.first(1), 60);
        Check.due("who", slow.first(0), 0);
        slow.hardens(0, 5);
        Check.due("not within 60", slow.first(1), -9);
        Check.due("none", slow.first(0), -9);
        slow.days(5);
        slow.hardens(0, 4);
        Check.due("by what it held", slow.first(1), 55);
        Check.due("other", x.first(5), -2);
        Check.due("other below", x.first(-1), -2);
        GravediggerPaid dry = Check.yard("g0;mm099;mw099;mh000;a00;a10;");
        Check.due("45 days", dry.first(2), 45);
        dry.leaves(0);
        Check.due("a wit ends sooner", dry.first(2), 25);
        dry.leaves(1);
        Check.due("nobody is dry now", dry.first(2), 0);
        dry.goes(2, 0);
        Check.due("never", dry.first(2), -9);
        GravediggerPaid long1 = Check.yard("g0;mf070;a00;");
        Check.due("60 to below ten is not yet 0", long1.first(2), -9);
        long1.grieves(0, 69);
        Check.due("60", long1.first(2), 60);
        GravediggerPaid bottom = Check.yard("g0;mh900;mh900;mh900;mh900;a00;a10;a20;a30;d48;");
        Check.due("40 left", 999 - bottom.grave(0, 1), 39);
        bottom.days(1);
        bottom.days(1);
        Check.due("-1 left", bottom.grave(0, 1), 999);
        Check.due("no deeper", bottom.first(0), -9);
    }

    private static void driest() {
        GravediggerPaid x = new GravediggerPaid();
        Check.due("no driest", x.first(3), -9);
        Check.due("no deepest", x.first(4), -9);
        Check.come(x, "g0;g0;g0;g0;mh000;mh000;a01;a12;d01;");
        Check.due("driest, the least", x.first(3), 0);
        Check.due("deepest, the least", x.first(4), 1);
        x.goes(0, 0);
        x.days(2);
        Check.due("driest now", x.first(3), 3);
        Check.due("deepest now", x.first(4), 2);
    }

    private static void nothingChanges() {
        GravediggerPaid x = Check.yard("g1;g3;mm099;mf550;mh300;a00;a11;d03;");
        long before = state(x);
        x.graveThen(0, 60, 0);
        x.griefThen(0, 60);
        x.payThen(60);
        x.deep(0, 99);
        x.first(0);
        x.seat(-1);
        x.fewest(0, 99, 30);
        x.tell(30);
        x.send(30, 1);
        x.bring(2, 30);
        x.change(30);
        x.onion(0, 30);
        x.two(0, 1, 30);
        x.winter(0, 7, 3, 5, 0);
        x.lots(5, 1, 0);
        x.row(x.grave(0, 1));
        x.whoWept(0);
        x.whatIs(0, 0);
        Check.due("state", state(x), before);
    }

    private static long state(GravediggerPaid x) {
        long sum = x.count(2);
        for (int i = 0; i < 3; i++) {
            for (int what = 0; what < 4; what++) {
                sum = sum * 31 + x.mourner(i, what);
                sum = sum * 31 + x.grave(i, what) * (i < 2 ? 1 : 0);
            }
        }
        return sum;
    }
}
