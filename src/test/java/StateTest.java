/** Promises 4 to 12 and 40: graves, mourners, what is done to them, days, counts. */
public final class StateTest {
    public static void main(String[] args) {
        grave();
        daysToFoot();
        weeps();
        goesAndLeaves();
        hears();
        grieves();
        hardens();
        turn();
        days();
        soaks();
        count();
        Check.finish();
    }

    private static void grave() {
        GravediggerPaid x = Check.yard("g4;g0;mf699;mh550;a00;a10;d10;");
        // A family of 6 with 99 weeps 11, then 9 days 10 or 11: 2 more than tens of grief.
        int family = 0;
        for (int grief = 99; grief > 89; grief--) {
            family += grief / 10 + 2;
        }
        int all = family + 30;
        Check.due("hard", x.grave(0, 0), 4);
        Check.due("deep", x.grave(0, 1), all / 5);
        Check.due("wet", x.grave(0, 2), all % 5);
        Check.due("pay", x.grave(0, 3), all / 5 / 12);
        Check.due("weeping", x.grave(0, 4), 8 + 2 + 3);
        Check.due("weeping elsewhere", x.grave(1, 4), 0);
        Check.due("none", x.grave(2, 0), -1);
        Check.due("none before other", x.grave(-1, 9), -1);
        Check.due("other", x.grave(0, 6), -2);
        Check.due("other below", x.grave(0, -1), -2);
    }

    private static void daysToFoot() {
        GravediggerPaid x = Check.yard("g0;g9;g2;ml000;ml000;mh000;a00;a11;");
        Check.due("an inch a day", x.grave(0, 5), 12);
        Check.due("120 days are too many", x.grave(1, 5), -9);
        Check.due("nobody there", x.grave(2, 5), -9);
        x.goes(2, 1);
        Check.due("60 days", x.grave(1, 5), 60);
        x.days(12);
        Check.due("the next foot", x.grave(0, 5), 12);
        x.days(5);
        Check.due("seven more", x.grave(0, 5), 7);
        GravediggerPaid deep = Check.yard("g0;mf999;a00;mf999;a10;");
        for (int i = 0; i < 3; i++) {
            for (int k = 0; k < 2; k++) {
                deep.grieves(k, 99);
            }
            deep.days(60);
        }
        Check.due("at the bottom", deep.grave(0, 1), 999);
        Check.due("no foot below it", deep.grave(0, 5), -9);
        GravediggerPaid edge = Check.yard("g7;ml000;a00;");
        Check.due("96 days", edge.grave(0, 5), 96);
        Check.due("harder", edge.hardens(0, 8), 7);
        Check.due("108 days", edge.grave(0, 5), -9);
        edge.days(9);
        Check.due("an inch behind nine", edge.grave(0, 1), 1);
        Check.due("99 days", edge.grave(0, 5), 99);
        GravediggerPaid late = Check.yard("g9;ml000;a00;d19;");
        Check.due("101 days", late.grave(0, 5), -9);
        late.days(1);
        Check.due("100 days", late.grave(0, 5), -9);
        late.days(1);
        Check.due("just 99", late.grave(0, 5), 99);
        // Held wet counts when the ground is softer, even if one weeps nothing.
        GravediggerPaid held = Check.yard("g9;mm090;a00;d01;h00;");
        held.grieves(0, 0);
        Check.due("held", held.grave(0, 2), 9);
        Check.due("9 inches are no foot", held.grave(0, 5), -9);
        held.grieves(0, 39);
        Check.due("9 and 3", held.grave(0, 5), 1);
        Check.due("held no more", held.leaves(0), 0);
        Check.due("nobody to soak it", held.grave(0, 5), -9);
    }

    private static void weeps() {
        int[][] due = {
            // kind, figure, grief, weeps, grief behind a day, grief once told
            {0, 9, 99, 9, 97, 99}, {0, 0, 50, 5, 48, 70}, {0, 0, 9, 0, 7, 29}, {0, 0, 1, 0, 0, 21},
            {1, 0, 99, 1, 99, 99}, {1, 5, 0, 3, 0, 0}, {1, 9, 42, 5, 42, 42},
            {2, 0, 20, 2, 20, 25}, {2, 5, 0, 6, 0, 5}, {2, 9, 97, 10, 97, 99},
            {3, 9, 49, 0, 47, 49}, {3, 0, 50, 5, 48, 50}, {3, 0, 99, 9, 97, 99},
            {4, 0, 99, 9, 98, 99}, {4, 9, 50, 8, 49, 80}, {4, 5, 0, 1, 0, 30}, {4, 2, 70, 7, 69, 99},
            {5, 9, 99, 1, 99, 99}, {5, 0, 0, 1, 0, 30},
        };
        GravediggerPaid x = Check.yard("g0;mm000;");
        for (int[] row : due) {
            String who = "kind " + row[0] + " figure " + row[1] + " grief " + row[2];
            x.turn(0, row[0], row[1]);
            x.grieves(0, row[2]);
            Check.due(who + " weeps", x.mourner(0, 4), row[3]);
            Check.due(who + " a day on", x.griefThen(0, 1), row[4]);
            Check.due(who + " told", x.hears(0), row[5]);
        }
        Check.due("kind", x.mourner(0, 0), 5);
        Check.due("figure", x.mourner(0, 1), 0);
        Check.due("none", x.mourner(1, 0), -1);
        Check.due("none before other", x.mourner(-1, 5), -1);
        Check.due("other", x.mourner(0, 5), -2);
        Check.due("other below", x.mourner(0, -1), -2);
    }

    private static void goesAndLeaves() {
        GravediggerPaid x = Check.yard("g0;g1;mm000;mm000;");
        Check.due("goes", x.goes(0, 1), -9);
        Check.due("goes on", x.goes(0, 0), 1);
        Check.due("goes nowhere else", x.goes(0, 0), 0);
        Check.due("no grave", x.goes(0, 2), -1);
        Check.due("no grave below", x.goes(0, -1), -1);
        Check.due("not by -9", x.goes(0, -9), -1);
        Check.due("no mourner", x.goes(2, 0), -1);
        Check.due("still there", x.mourner(0, 3), 0);
        Check.due("leaves", x.leaves(0), 0);
        Check.due("leaves again", x.leaves(0), -3);
        Check.due("never was", x.leaves(1), -3);
        Check.due("nobody leaves", x.leaves(2), -1);
        Check.due("nobody below", x.leaves(-1), -1);
        Check.due("-1", x.count(11), 6);
        Check.due("-3", x.count(13), 2);
    }

    private static void hears() {
        GravediggerPaid x = Check.yard("mm079;mf069;");
        Check.due("up to the most", x.hears(0), 99);
        Check.due("not above", x.hears(0), 99);
        Check.due("thirty", x.hears(1), 99);
        Check.due("kept", x.mourner(1, 2), 99);
        Check.due("nobody", x.hears(2), -1);
        Check.due("nobody below", x.hears(-1), -1);
    }

    private static void grieves() {
        GravediggerPaid x = Check.yard("mm033;");
        Check.due("99", x.grieves(0, 99), 33);
        Check.due("0", x.grieves(0, 0), 99);
        Check.due("kept", x.mourner(0, 2), 0);
        Check.due("below", x.grieves(0, -1), -4);
        Check.due("above", x.grieves(0, 100), -6);
        Check.due("nobody first", x.grieves(1, -1), -1);
        Check.due("as it was", x.mourner(0, 2), 0);
    }

    private static void hardens() {
        GravediggerPaid x = Check.yard("g3;");
        Check.due("9", x.hardens(0, 9), 3);
        Check.due("0", x.hardens(0, 0), 9);
        Check.due("below", x.hardens(0, -1), -4);
        Check.due("above", x.hardens(0, 10), -6);
        Check.due("nobody first", x.hardens(1, -1), -1);
        Check.due("as it was", x.grave(0, 0), 0);
    }

    private static void turn() {
        GravediggerPaid x = Check.yard("mm433;");
        Check.due("a lady", x.turn(0, 5, 9), 4);
        Check.due("a mourner", x.turn(0, 0, 0), 59);
        Check.due("other", x.turn(0, 6, -1), -2);
        Check.due("other below", x.turn(0, -1, 10), -2);
        Check.due("below", x.turn(0, 1, -1), -4);
        Check.due("above", x.turn(0, 1, 10), -6);
        Check.due("nobody first", x.turn(1, 6, -1), -1);
        Check.due("as it was", x.turn(0, 0, 0), 0);
        Check.due("grief stays", x.mourner(0, 2), 33);
    }

    private static void days() {
        GravediggerPaid x = Check.yard("g0;g1;mh900;mh900;a00;a11;");
        Check.due("0", x.days(0), -4);
        Check.due("below", x.days(-1), -4);
        Check.due("61", x.days(61), -6);
        Check.due("greatest", x.days(Integer.MAX_VALUE), -6);
        Check.due("a day", x.days(1), 0);
        Check.due("pay of each by itself", x.days(6), 2 + 1);
        for (int i = 0; i < 16; i++) {
            x.days(60);
        }
        Check.due("day", x.count(2), 967);
        Check.due("above 999", x.days(33), -6);
        Check.due("no day went by", x.count(2), 967);
        Check.due("999", x.days(32), 83 + 83);
        Check.due("deep", x.grave(0, 1), 999);
        Check.due("wet at the bottom", x.grave(1, 2), 999 * 5 % 2);
        Check.due("no more", x.days(1), -6);
        Check.due("in thought", x.payThen(60), 166);
    }

    private static void soaks() {
        GravediggerPaid x = Check.yard("g9;g9;mm090;mm090;a00;a11;d01;h00;h10;n1;");
        x.grieves(0, 0);
        Check.due("weeps nothing", x.mourner(0, 4), 0);
        x.days(1);
        Check.due("soaks nothing and what it held", x.grave(0, 1), 9);
        Check.due("held no more", x.grave(0, 2), 0);
        Check.due("nobody there", x.grave(1, 1), 0);
        Check.due("held still", x.grave(1, 2), 9);
        Check.due("who is nowhere grieves less", x.mourner(1, 2), 86);
        GravediggerPaid first = Check.yard("g0;mw051;a00;");
        Check.due("weeps, then is less", first.graveThen(0, 1, 0), 5);
        Check.due("then nothing", first.graveThen(0, 2, 0), 5);
    }

    private static void count() {
        GravediggerPaid x = Check.yard("g0;g0;mm050;mh933;a00;a11;d05;");
        x.row(1);
        x.letter('g');
        x.letter('x');
        Check.due("graves", x.count(0), 2);
        Check.due("mourners", x.count(1), 2);
        Check.due("day", x.count(2), 5);
        Check.due("pay", x.count(3), 1 + 2);
        Check.due("inches", x.count(4), 5 + 4 * 4 + 25);
        Check.due("grief", x.count(5), 40 + 33);
        Check.due("row", x.count(6), 1);
        Check.due("letters", x.count(7), 2);
        for (int what : new int[] {-1, 8, 9, 10, 17, Integer.MIN_VALUE, Integer.MAX_VALUE}) {
            Check.due("another what " + what, x.count(what), -9);
        }
        x.goes(9, 9);
        x.first(9);
        x.on();
        x.row(-1);
        x.row(100);
        x.onion(9, 1);
        x.share(9, 1);
        x.share(0, 7);
        x.winter(0, -1, 2, 0, 0);
        x.winter(0, 8, 2, 0, 0);
        x.mean(2);
        Check.due("-1", x.count(11), 3);
        Check.due("-2", x.count(12), 3);
        Check.due("-3", x.count(13), 1);
        Check.due("-4", x.count(14), 2);
        Check.due("-5", x.count(15), 0);
        Check.due("-6", x.count(16), 2);
    }
}
