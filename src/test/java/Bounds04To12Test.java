/** The boundary cases of promises 4 to 12: graves, mourners, what is done to them, days. */
public final class Bounds04To12Test {
    private static final String ONE = "g3;mm550;";
    private static final String FULL =
        "g0;g1;g2;g3;g4;mm000;mh100;mo200;mw300;mf400;ml500;a00;a11;a22;";

    public static void main(String[] args) throws ReflectiveOperationException {
        Promises.run(Bounds04To12Test.class);
    }

    private static GravediggerPaid one(int kind, int figure, int grief) {
        GravediggerPaid x = Check.yard("mm000;");
        x.turn(0, kind, figure);
        x.grieves(0, grief);
        return x;
    }

    private static int weeps(int kind, int figure, int grief) {
        return one(kind, figure, grief).mourner(0, 4);
    }

    private static void promise04_noSuchGrave() {
        Refused.due("", "without graves", x -> x.grave(0, 0), Refused.NOBODY);
        Refused.due(ONE, "one more", x -> x.grave(1, 0), Refused.NOBODY);
        Refused.due(ONE, "-1", x -> x.grave(-1, 0), Refused.NOBODY);
        Refused.due(ONE, "least", x -> x.grave(Refused.LEAST, 0), Refused.NOBODY);
        Refused.due(ONE, "greatest", x -> x.grave(Refused.GREATEST, 0), Refused.NOBODY);
        Refused.due(FULL, "the sixth", x -> x.grave(5, 0), Refused.NOBODY);
        Refused.due(ONE, "before what", x -> x.grave(1, 6), Refused.NOBODY);
        Check.due("the fifth", Check.yard(FULL).grave(4, 0), 4);
    }

    private static void promise04_anotherWhat() {
        Refused.due(ONE, "-1", x -> x.grave(0, -1), Refused.OTHER);
        Refused.due(ONE, "6", x -> x.grave(0, 6), Refused.OTHER);
        Refused.due(ONE, "least", x -> x.grave(0, Refused.LEAST), Refused.OTHER);
        Refused.due(ONE, "greatest", x -> x.grave(0, Refused.GREATEST), Refused.OTHER);
    }

    private static void promise04_hard0And9() {
        // Nine wept is nine inches in the softest and wet alone in the hardest ground.
        GravediggerPaid x = Check.yard("g0;g9;mm090;mm090;a00;a11;d01;");
        Check.due("hard 0", x.grave(0, 0), 0);
        Check.due("hard 9", x.grave(1, 0), 9);
        Check.due("softest deep", x.grave(0, 1), 9);
        Check.due("softest wet", x.grave(0, 2), 0);
        Check.due("hardest deep", x.grave(1, 1), 0);
        Check.due("hardest wet", x.grave(1, 2), 9);
    }

    private static void promise04_wet9AndOneMore() {
        GravediggerPaid x = Check.yard("g9;ml000;a00;d09;");
        Check.due("deep", x.grave(0, 1), 0);
        Check.due("wet", x.grave(0, 2), 9);
        x.days(1);
        Check.due("deep behind one more", x.grave(0, 1), 1);
        Check.due("wet behind one more", x.grave(0, 2), 0);
    }

    private static void promise04_deep0And999() {
        Check.due("0", Check.yard("g0;").grave(0, 1), 0);
        GravediggerPaid x = Check.dug(998);
        x.days(1);
        Check.due("999", x.grave(0, 1), 999);
        x.days(1);
        Check.due("999 at most", x.grave(0, 1), 999);
        Check.due("not wet", x.grave(0, 2), 0);
    }

    private static void promise04_whatWouldGoDeeper() {
        GravediggerPaid x = Check.dug(995);
        x.turn(0, 2, 9);
        x.days(1);
        Check.due("ten more", x.grave(0, 1), 999);
        // Harder ground: what is wept makes less WET of WET as if it went deeper.
        x.hardens(0, 2);
        x.days(1);
        Check.due("deep", x.grave(0, 1), 999);
        Check.due("ten by three", x.grave(0, 2), 1);
        x.days(2);
        Check.due("thirty by three", x.grave(0, 2), 0);
    }

    private static void promise04_pay() {
        int[][] due = {{0, 0}, {11, 0}, {12, 1}, {23, 1}, {24, 2}, {995, 82}, {996, 83}, {999, 83}};
        for (int[] d : due) {
            GravediggerPaid x = Check.dug(d[0]);
            Check.due("pay of " + d[0], x.grave(0, 3), d[1]);
        }
    }

    private static void promise04_weepingOfNobodyAndOfAll() {
        GravediggerPaid x = Check.yard("g0;g0;mo900;mo900;mo900;mo900;mo900;mo900;");
        Check.due("nobody", x.grave(0, 4), 0);
        for (int m = 0; m < 6; m++) {
            x.goes(m, 1);
        }
        Check.due("all six", x.grave(1, 4), 60);
        Check.due("still nobody", x.grave(0, 4), 0);
        Check.due("of 0", Check.yard("g0;mm009;a00;").grave(0, 4), 0);
    }

    private static void promise04_daysToAFoot1And99() {
        Check.due("1", Check.dug(11).grave(0, 5), 1);
        GravediggerPaid x = Check.yard("g9;ml000;a00;d20;");
        Check.due("100", x.grave(0, 5), -9);
        x.days(1);
        Check.due("99", x.grave(0, 5), 99);
        Check.due("108 (12 of HARD 8)", Check.yard("g8;ml000;a00;").grave(0, 5), -9);
        Check.due("96 (12 of HARD 7)", Check.yard("g7;ml000;a00;").grave(0, 5), 96);
    }

    private static void promise04_daysToTheNextWhole12Above() {
        Check.due("from 0", Check.dug(0).grave(0, 5), 12);
        Check.due("from 12", Check.dug(12).grave(0, 5), 12);
        Check.due("from 13", Check.dug(13).grave(0, 5), 11);
        GravediggerPaid more = Check.dug(0);
        more.turn(0, 1, 9);
        Check.due("15 is more than 12", more.grave(0, 5), 3);
    }

    private static void promise04_daysToAFootAbove999() {
        GravediggerPaid x = Check.dug(995);
        Check.due("to 996", x.grave(0, 5), 1);
        x.days(1);
        Check.due("1008", x.grave(0, 5), -9);
        x.days(3);
        Check.due("from 999", x.grave(0, 5), -9);
        Check.due("from 984 to 996", Check.dug(984).grave(0, 5), 12);
        Check.due("from 983", Check.dug(983).grave(0, 5), 1);
    }

    private static void promise04_daysToAFootOfNothing() {
        Check.due("nobody", Check.yard("g0;").grave(0, 5), -9);
        Check.due("weeps 0", Check.yard("g0;mm009;a00;").grave(0, 5), -9);
        Check.due("is nowhere", Check.yard("g0;mm099;").grave(0, 5), -9);
    }

    private static void promise04_daysToAFootByWetAndAsNow() {
        // WET 9 of HARD 9: one day, then ten for each of the other eleven inches.
        GravediggerPaid x = Check.yard("g9;mh000;mm000;a00;d09;");
        Check.due("111", x.grave(0, 5), -9);
        x.turn(0, 1, 2);
        Check.due("111 by two a day", x.grave(0, 5), 56);
        // As now: his grief, though it will be less.
        Check.due("no less", Check.yard("g0;mm010;a00;").grave(0, 5), 12);
        Check.due("a wit of 50", Check.yard("g0;mw050;a00;").grave(0, 5), 3);
        GravediggerPaid late = Check.yard("d60;".repeat(16) + "d39;");
        Check.come(late, "g0;ml000;a00;");
        Check.due("DAY 999", late.grave(0, 5), 12);
    }

    private static void promise04_daysToAFootByHeldWet() {
        // WET 9 above the HARD of now is nine inches on the next day, and no sooner.
        GravediggerPaid x = Check.dug(11);
        x.hardens(0, 9);
        x.days(9);
        x.hardens(0, 0);
        Check.due("11 and 9", x.grave(0, 5), 1);
        x.turn(0, 0, 0);
        Check.due("by whom weeps 0, too", x.grave(0, 5), 1);
        x.leaves(0);
        Check.due("not by nobody", x.grave(0, 5), -9);
        GravediggerPaid y = Check.dug(2);
        y.hardens(0, 9);
        y.days(9);
        y.hardens(0, 0);
        Check.due("2 and 9 and 1", y.grave(0, 5), 1);
        y.turn(0, 0, 0);
        Check.due("2 and 9", y.grave(0, 5), -9);
    }

    private static void promise05_noSuchMourner() {
        Refused.due("", "without", x -> x.mourner(0, 0), Refused.NOBODY);
        Refused.due(ONE, "one more", x -> x.mourner(1, 0), Refused.NOBODY);
        Refused.due(ONE, "-1", x -> x.mourner(-1, 0), Refused.NOBODY);
        Refused.due(ONE, "least", x -> x.mourner(Refused.LEAST, 0), Refused.NOBODY);
        Refused.due(ONE, "greatest", x -> x.mourner(Refused.GREATEST, 0), Refused.NOBODY);
        Refused.due(FULL, "the seventh", x -> x.mourner(6, 0), Refused.NOBODY);
        Refused.due(ONE, "before what", x -> x.mourner(1, 5), Refused.NOBODY);
        Check.due("the sixth", Check.yard(FULL).mourner(5, 0), 5);
    }

    private static void promise05_anotherWhat() {
        Refused.due(ONE, "-1", x -> x.mourner(0, -1), Refused.OTHER);
        Refused.due(ONE, "5", x -> x.mourner(0, 5), Refused.OTHER);
        Refused.due(ONE, "least", x -> x.mourner(0, Refused.LEAST), Refused.OTHER);
        Refused.due(ONE, "greatest", x -> x.mourner(0, Refused.GREATEST), Refused.OTHER);
    }

    private static void promise05_oneWhoIsNowhere() {
        GravediggerPaid x = Check.yard("g0;mm050;");
        Check.due("at first", x.mourner(0, 3), -9);
        Check.due("weeps all the same", x.mourner(0, 4), 5);
        x.goes(0, 0);
        Check.due("at 0", x.mourner(0, 3), 0);
        x.leaves(0);
        Check.due("again", x.mourner(0, 3), -9);
    }

    private static void promise05_aMournerWeepsGriefBy10Cut() {
        int[][] due = {{0, 0}, {9, 0}, {10, 1}, {19, 1}, {49, 4}, {50, 5}, {89, 8}, {90, 9}, {99, 9}};
        for (int[] d : due) {
            Check.due("m " + d[0], weeps(0, 9, d[0]), d[1]);
        }
    }

    private static void promise05_hiredAndOnionWeepByFigure() {
        int[] due = {1, 1, 2, 2, 3, 3, 4, 4, 5, 5};
        for (int figure = 0; figure <= 9; figure++) {
            Check.due("h " + figure, weeps(1, figure, 0), due[figure]);
            Check.due("h grieved " + figure, weeps(1, figure, 99), due[figure]);
            Check.due("o " + figure, weeps(2, figure, 99), 2 * due[figure]);
        }
    }

    private static void promise05_aWitWeepsNothingBelow50() {
        int[][] due = {{0, 0}, {10, 0}, {48, 0}, {49, 0}, {50, 5}, {51, 5}, {60, 6}, {99, 9}};
        for (int[] d : due) {
            Check.due("w " + d[0], weeps(3, 9, d[0]), d[1]);
        }
    }

    private static void promise05_familyWeepsMoreByFigure() {
        int[] due = {0, 0, 0, 1, 1, 1, 2, 2, 2, 3};
        for (int figure = 0; figure <= 9; figure++) {
            Check.due("f 0 " + figure, weeps(4, figure, 0), due[figure]);
            Check.due("f 9 " + figure, weeps(4, figure, 9), due[figure]);
            Check.due("f 49 " + figure, weeps(4, figure, 49), 4 + due[figure]);
            Check.due("f 99 " + figure, weeps(4, figure, 99), 9 + due[figure]);
        }
    }

    private static void promise05_aLadyWeeps1() {
        Check.due("0", weeps(5, 0, 0), 1);
        Check.due("all", weeps(5, 9, 99), 1);
    }

    private static void promise06_noSuchMournerOrGrave() {
        Refused.due("", "without either", x -> x.goes(0, 0), Refused.NOBODY);
        Refused.due("mm000;", "without graves", x -> x.goes(0, 0), Refused.NOBODY);
        Refused.due("g0;", "without mourners", x -> x.goes(0, 0), Refused.NOBODY);
        Refused.due(ONE, "mourner -1", x -> x.goes(-1, 0), Refused.NOBODY);
        Refused.due(ONE, "mourner 1", x -> x.goes(1, 0), Refused.NOBODY);
        Refused.due(ONE, "grave -1", x -> x.goes(0, -1), Refused.NOBODY);
        Refused.due(ONE, "grave -9", x -> x.goes(0, -9), Refused.NOBODY);
        Refused.due(ONE, "grave 1", x -> x.goes(0, 1), Refused.NOBODY);
        Refused.due(ONE, "greatest", x -> x.goes(Refused.GREATEST, 0), Refused.NOBODY);
        Refused.due(ONE, "least", x -> x.goes(0, Refused.LEAST), Refused.NOBODY);
        Refused.due(FULL, "the seventh", x -> x.goes(6, 4), Refused.NOBODY);
        Refused.due(FULL, "to the sixth", x -> x.goes(5, 5), Refused.NOBODY);
        Check.due("the sixth to the fifth", Check.yard(FULL).goes(5, 4), -9);
    }

    private static void promise06_fromNowhereAndWhereHeIs() {
        GravediggerPaid x = Check.yard("g0;g0;mm000;");
        Check.due("from nowhere", x.goes(0, 1), -9);
        Check.due("where he is", x.goes(0, 1), 1);
        Check.due("elsewhere", x.goes(0, 0), 1);
        Check.due("from 0", x.goes(0, 1), 0);
    }

    private static void promise07_nobodyAndNowhere() {
        Refused.due("", "without", x -> x.leaves(0), Refused.NOBODY);
        Refused.due(ONE, "-1", x -> x.leaves(-1), Refused.NOBODY);
        Refused.due(ONE, "one more", x -> x.leaves(1), Refused.NOBODY);
        Refused.due(FULL, "the seventh", x -> x.leaves(6), Refused.NOBODY);
        Refused.due(ONE, "never was", x -> x.leaves(0), Refused.STATE);
        GravediggerPaid x = Check.yard(FULL);
        Check.due("from 0", x.leaves(0), 0);
        Check.due("from 2", x.leaves(2), 2);
        Refused.by(x, "twice", y -> y.leaves(0), Refused.STATE);
    }

    private static void promise08_griefAtMost99() {
        // kind, grief, grief then
        int[][] due = {
            {0, 0, 20}, {0, 78, 98}, {0, 79, 99}, {0, 80, 99}, {0, 90, 99}, {0, 99, 99},
            {1, 0, 0}, {1, 99, 99},
            {2, 0, 5}, {2, 93, 98}, {2, 94, 99}, {2, 95, 99}, {2, 99, 99},
            {3, 0, 0}, {3, 49, 49}, {3, 99, 99},
            {4, 0, 30}, {4, 68, 98}, {4, 69, 99}, {4, 70, 99}, {4, 99, 99},
            {5, 0, 30}, {5, 68, 98}, {5, 69, 99}, {5, 70, 99}, {5, 99, 99},
        };
        for (int[] d : due) {
            GravediggerPaid x = one(d[0], 9, d[1]);
            Check.due("kind " + d[0] + " of " + d[1], x.hears(0), d[2]);
            Check.due("kept", x.mourner(0, 2), d[2]);
        }
    }

    private static void promise08_nobody() {
        Refused.due("", "without", x -> x.hears(0), Refused.NOBODY);
        Refused.due(ONE, "-1", x -> x.hears(-1), Refused.NOBODY);
        Refused.due(ONE, "one more", x -> x.hears(1), Refused.NOBODY);
        Refused.due(FULL, "the seventh", x -> x.hears(6), Refused.NOBODY);
        Check.due("the sixth", Check.yard(FULL).hears(5), 30);
    }

    private static void promise09_grief0And99AndBeyond() {
        GravediggerPaid x = Check.yard(ONE);
        Check.due("99", x.grieves(0, 99), 50);
        Check.due("0", x.grieves(0, 0), 99);
        Check.due("as it was", x.grieves(0, 7), 0);
        Refused.due(ONE, "-1", y -> y.grieves(0, -1), Refused.BELOW);
        Refused.due(ONE, "least", y -> y.grieves(0, Refused.LEAST), Refused.BELOW);
        Refused.due(ONE, "100", y -> y.grieves(0, 100), Refused.ROOM);
        Refused.due(ONE, "greatest", y -> y.grieves(0, Refused.GREATEST), Refused.ROOM);
    }

    private static void promise09_nobodyFirst() {
        Refused.due("", "without", x -> x.grieves(0, 0), Refused.NOBODY);
        Refused.due(ONE, "before below", x -> x.grieves(1, -1), Refused.NOBODY);
        Refused.due(ONE, "before above", x -> x.grieves(-1, 100), Refused.NOBODY);
        Refused.due(FULL, "the seventh", x -> x.grieves(6, 0), Refused.NOBODY);
    }

    private static void promise10_hard0And9AndBeyond() {
        GravediggerPaid x = Check.yard(ONE);
        Check.due("9", x.hardens(0, 9), 3);
        Check.due("0", x.hardens(0, 0), 9);
        Check.due("as it was", x.hardens(0, 7), 0);
        Refused.due(ONE, "-1", y -> y.hardens(0, -1), Refused.BELOW);
        Refused.due(ONE, "least", y -> y.hardens(0, Refused.LEAST), Refused.BELOW);
        Refused.due(ONE, "10", y -> y.hardens(0, 10), Refused.ROOM);
        Refused.due(ONE, "greatest", y -> y.hardens(0, Refused.GREATEST), Refused.ROOM);
    }

    private static void promise10_nobodyFirst() {
        Refused.due("", "without", x -> x.hardens(0, 0), Refused.NOBODY);
        Refused.due(ONE, "before below", x -> x.hardens(1, -1), Refused.NOBODY);
        Refused.due(ONE, "before above", x -> x.hardens(-1, 10), Refused.NOBODY);
        Refused.due(FULL, "the sixth", x -> x.hardens(5, 0), Refused.NOBODY);
    }

    private static void promise10_wetAboveTheNewHardIsKept() {
        GravediggerPaid x = Check.yard("g9;ml000;a00;d09;h00;");
        Check.due("wet", x.grave(0, 2), 9);
        Check.due("deep", x.grave(0, 1), 0);
        x.days(1);
        Check.due("deep behind a day", x.grave(0, 1), 10);
        Check.due("wet behind a day", x.grave(0, 2), 0);
    }

    private static void promise11_kinds0And5AndBeyond() {
        GravediggerPaid x = Check.yard(ONE);
        Check.due("5", x.turn(0, 5, 5), 5);
        Check.due("0", x.turn(0, 0, 5), 55);
        Check.due("it was", x.turn(0, 0, 5), 5);
        Refused.due(ONE, "-1", y -> y.turn(0, -1, 0), Refused.OTHER);
        Refused.due(ONE, "6", y -> y.turn(0, 6, 0), Refused.OTHER);
        Refused.due(ONE, "least", y -> y.turn(0, Refused.LEAST, 0), Refused.OTHER);
        Refused.due(ONE, "greatest", y -> y.turn(0, Refused.GREATEST, 0), Refused.OTHER);
    }

    private static void promise11_figures0And9AndBeyond() {
        GravediggerPaid x = Check.yard(ONE);
        Check.due("9", x.turn(0, 1, 9), 5);
        Check.due("0", x.turn(0, 1, 0), 19);
        Check.due("it was", x.turn(0, 1, 0), 10);
        Refused.due(ONE, "-1", y -> y.turn(0, 5, -1), Refused.BELOW);
        Refused.due(ONE, "least", y -> y.turn(0, 5, Refused.LEAST), Refused.BELOW);
        Refused.due(ONE, "10", y -> y.turn(0, 5, 10), Refused.ROOM);
        Refused.due(ONE, "greatest", y -> y.turn(0, 5, Refused.GREATEST), Refused.ROOM);
    }

    private static void promise11_nobodyThenOtherThenNumbers() {
        Refused.due("", "without", x -> x.turn(0, 0, 0), Refused.NOBODY);
        Refused.due(ONE, "before kind", x -> x.turn(1, 6, -1), Refused.NOBODY);
        Refused.due(ONE, "before figure", x -> x.turn(-1, 0, 10), Refused.NOBODY);
        Refused.due(FULL, "the seventh", x -> x.turn(6, 0, 0), Refused.NOBODY);
        Refused.due(ONE, "kind before below", x -> x.turn(0, 6, -1), Refused.OTHER);
        Refused.due(ONE, "kind before above", x -> x.turn(0, -1, 10), Refused.OTHER);
    }

    private static void promise12_days0And1And60And61() {
        Refused.due(ONE, "0", x -> x.days(0), Refused.BELOW);
        Refused.due(ONE, "-1", x -> x.days(-1), Refused.BELOW);
        Refused.due(ONE, "least", x -> x.days(Refused.LEAST), Refused.BELOW);
        Refused.due(ONE, "61", x -> x.days(61), Refused.ROOM);
        Refused.due(ONE, "greatest", x -> x.days(Refused.GREATEST), Refused.ROOM);
        GravediggerPaid x = Check.dug(0);
        Check.due("1", x.days(1), 0);
        Check.due("day 1", x.count(2), 1);
        Check.due("60", x.days(60), 61 / 12);
        Check.due("day 61", x.count(2), 61);
    }

    private static void promise12_day999AndAbove() {
        String till960 = "d60;".repeat(16);
        Refused.due(till960, "1000", x -> x.days(40), Refused.ROOM);
        Refused.due(till960, "1020", x -> x.days(60), Refused.ROOM);
        GravediggerPaid x = Check.yard(till960);
        Check.due("999", x.days(39), 0);
        Check.due("day", x.count(2), 999);
        Refused.by(x, "one more", y -> y.days(1), Refused.ROOM);
        Refused.by(x, "none", y -> y.days(0), Refused.BELOW);
        GravediggerPaid one = Check.yard(till960 + "d38;");
        Refused.by(one, "two more", y -> y.days(2), Refused.ROOM);
        Check.due("one more", one.days(1), 0);
    }

    private static void promise12_withoutGravesOrMourners() {
        Check.due("nothing", new GravediggerPaid().days(60), 0);
        Check.due("graves alone", Check.yard("g0;g9;").days(60), 0);
        GravediggerPaid x = Check.yard("mm099;");
        Check.due("mourners alone", x.days(3), 0);
        Check.due("grieve less all the same", x.mourner(0, 2), 93);
    }

    private static void promise12_griefIsNeverBelow0() {
        // kind, grief, grief behind a day
        int[][] due = {
            {0, 99, 97}, {0, 2, 0}, {0, 1, 0}, {0, 0, 0},
            {1, 1, 1}, {1, 99, 99}, {2, 1, 1}, {2, 99, 99},
            {3, 99, 97}, {3, 2, 0}, {3, 1, 0}, {3, 0, 0},
            {4, 99, 98}, {4, 2, 1}, {4, 1, 0}, {4, 0, 0}, {5, 1, 1}, {5, 99, 99},
        };
        for (int[] d : due) {
            GravediggerPaid x = one(d[0], 9, d[1]);
            x.days(1);
            Check.due("kind " + d[0] + " of " + d[1], x.mourner(0, 2), d[2]);
        }
    }

    private static void promise12_whoWeepsIsLessBehindIt() {
        GravediggerPaid x = Check.yard("g0;mw050;mm010;mf010;a00;a10;a20;");
        x.days(1);
        Check.due("five, one and one", x.grave(0, 1), 7);
        x.days(1);
        Check.due("no more", x.grave(0, 1), 7);
    }

    private static void promise12_whoWeeps0MakesItSoakToo() {
        // Held WET is above HARD once the ground is softer: any that comes, 0 too, frees it.
        GravediggerPaid x = Check.yard("g9;g9;mm010;mm010;a00;a11;d01;");
        for (int g = 0; g < 2; g++) {
            Check.due("wet " + g, x.grave(g, 2), 1);
            x.hardens(g, 0);
        }
        x.leaves(1);
        Check.due("weeps 0", x.mourner(0, 4), 0);
        x.days(1);
        Check.due("soaks 0", x.grave(0, 1), 1);
        Check.due("wet no more", x.grave(0, 2), 0);
        Check.due("nobody there", x.grave(1, 1), 0);
        Check.due("wet still", x.grave(1, 2), 1);
    }

    private static void promise12_sixAtOneGrave() {
        GravediggerPaid x = Check.yard("g9;mo900;mo900;mo900;mo900;mo900;mh900;a00;a10;a20;a30;a40;a50;");
        x.days(1);
        Check.due("55 by 10", x.grave(0, 1), 5);
        Check.due("and 5", x.grave(0, 2), 5);
        Check.due("60 days", x.days(60), 61 * 55 / 10 / 12);
    }

    private static void promise12_allPayIsOfEachGraveByItself() {
        GravediggerPaid x = Check.yard("g0;g0;ml000;ml000;a00;a11;");
        Check.due("11 and 11", x.days(11), 0);
        Check.due("12 and 12", x.days(1), 2);
    }

    private static void promise12_deep999PaysNoMore() {
        GravediggerPaid x = Check.dug(995);
        Check.due("996", x.days(1), 83);
        Check.due("999 at most", x.days(60), 83);
        Check.due("deep", x.grave(0, 1), 999);
    }
}
