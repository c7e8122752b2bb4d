/** The boundary cases of promises 32 to 40: the row, lots, the image, counts. */
public final class Bounds32To40Test {
    private static final String ONE = "g3;mm550;a00;";
    private static final String SIX = "ml000;ml000;ml000;ml000;ml000;ml000;";
    private static final String LAST_DAY = "d60;".repeat(16) + "d39;";

    public static void main(String[] args) throws ReflectiveOperationException {
        Promises.run(Bounds32To40Test.class);
    }

    private static void days(GravediggerPaid x, int inchesADay, int numbers) {
        x.clear();
        for (int i = 0; i < numbers; i++) {
            x.row(i * inchesADay);
        }
    }

    private static void promise32_nobody() {
        Refused.due("", "without graves", x -> x.whoWept(0), Refused.NOBODY);
        Refused.due(SIX, "mourners alone", x -> x.whoWept(0), Refused.NOBODY);
        Refused.due(ONE, "-1", x -> x.whoWept(-1), Refused.NOBODY);
        Refused.due(ONE, "one more", x -> x.whoWept(1), Refused.NOBODY);
        Refused.due(ONE, "least", x -> x.whoWept(Refused.LEAST), Refused.NOBODY);
        Refused.due("g0;g0;g0;g0;g0;", "the sixth", x -> x.whoWept(5), Refused.NOBODY);
        Check.due("the fifth", Check.yard("g0;g0;g0;g0;g0;").whoWept(4), 0);
    }

    private static void promise32_aRowOfNone() {
        Check.due("all six", Check.yard("g0;" + SIX).whoWept(0), 63);
        Check.due("without mourners", Check.yard("g0;").whoWept(0), 0);
    }

    private static void promise32_aRowOfOneTellsNow() {
        GravediggerPaid x = Check.yard("g0;" + SIX);
        x.row(0);
        Check.due("0", x.whoWept(0), 63);
        GravediggerPaid y = Check.dug(99);
        y.row(99);
        Check.due("99", y.whoWept(0), 1);
        y.row(99);
        Check.due("99 a day on", y.whoWept(0), 0);
        GravediggerPaid z = Check.dug(100);
        z.row(99);
        Check.due("100 is not 99", z.whoWept(0), 0);
    }

    private static void promise32_aRowOf16() {
        GravediggerPaid x = Check.yard("g0;ml000;mh200;mm000;mh100;mh000;mo000;");
        days(x, 1, 16);
        Check.due("who weep 1", x.whoWept(0), 1 + 8 + 16);
        days(x, 2, 16);
        Check.due("who weep 2", x.whoWept(0), 2 + 32);
        days(x, 0, 16);
        Check.due("who weeps 0", x.whoWept(0), 4);
        days(x, 1, 15);
        x.row(16);
        Check.due("but the last", x.whoWept(0), 0);
        Check.due("it stays", x.count(6), 16);
    }

    private static void promise32_allOthersNowhere() {
        GravediggerPaid x = Check.yard("g0;g0;ml000;mh200;mm000;a00;a10;a21;");
        days(x, 1, 4);
        Check.due("the lady alone", x.whoWept(0), 1);
        Check.due("at the other as well", x.whoWept(1), 1);
        days(x, 3, 4);
        Check.due("not both", x.whoWept(0), 0);
        days(x, 0, 4);
        Check.due("from elsewhere", x.whoWept(0), 4);
        Check.due("they are where they were", x.mourner(1, 3), 0);
    }

    private static void promise32_dayAbove999InThought() {
        GravediggerPaid x = Check.yard(LAST_DAY);
        Check.come(x, "g0;ml000;a00;");
        days(x, 1, 16);
        Check.due("16", x.whoWept(0), 1);
    }

    private static void promise32_held() {
        // Whoever weeps 0 there frees what the softer ground holds.
        GravediggerPaid x = Check.yard("g9;ml000;mm000;a00;d09;h00;");
        x.row(0);
        x.row(9);
        Check.due("nine by nothing", x.whoWept(0), 2);
    }

    private static void promise33_nobodyThenOther() {
        Refused.due("", "without any", x -> x.whatIs(0, 0), Refused.NOBODY);
        Refused.due(ONE, "nobody first", x -> x.whatIs(1, 2), Refused.NOBODY);
        Refused.due(ONE, "-1", x -> x.whatIs(-1, -1), Refused.NOBODY);
        Refused.due("g0;" + SIX, "the seventh", x -> x.whatIs(6, 0), Refused.NOBODY);
        Refused.due(ONE, "2", x -> x.whatIs(0, 2), Refused.OTHER);
        Refused.due(ONE, "what -1", x -> x.whatIs(0, -1), Refused.OTHER);
        Refused.due("mm000;", "nowhere, 2", x -> x.whatIs(0, 2), Refused.OTHER);
    }

    private static void promise33_nowhere() {
        GravediggerPaid x = Check.yard("g0;ml000;");
        Check.due("kinds, no row", x.whatIs(0, 0), 0);
        Check.due("figures, no row", x.whatIs(0, 1), 0);
        x.row(0);
        Check.due("kinds", x.whatIs(0, 0), 0);
        Check.due("figures", x.whatIs(0, 1), 0);
    }

    private static void promise33_aRowOfNone() {
        GravediggerPaid x = Check.yard("g0;g0;ml000;a01;");
        Check.due("all kinds", x.whatIs(0, 0), 63);
        Check.due("all figures", x.whatIs(0, 1), 1023);
    }

    private static void promise33_aRowOf16() {
        GravediggerPaid x = Check.yard("g0;ml000;a00;");
        days(x, 1, 16);
        Check.due("hired, lady", x.whatIs(0, 0), 2 + 32);
        Check.due("a lady of any figure", x.whatIs(0, 1), 1023);
        days(x, 0, 16);
        Check.due("who weep 0", x.whatIs(0, 0), 1 + 8 + 16);
        Check.due("no figure", x.whatIs(0, 1), 0);
        days(x, 2, 16);
        Check.due("the onion", x.whatIs(0, 0), 4);
        days(x, 5, 16);
        x.turn(0, 1, 0);
        Check.due("figures 8 and 9", x.whatIs(0, 1), 256 + 512);
        days(x, 1, 15);
        x.row(16);
        Check.due("but the last", x.whatIs(0, 1), 0);
        Check.due("it stays", x.count(6), 16);
    }

    private static void promise33_dayAbove999InThought() {
        GravediggerPaid x = Check.yard(LAST_DAY);
        Check.come(x, "g0;ml000;a00;");
        days(x, 1, 16);
        Check.due("16", x.whatIs(0, 0), 2 + 32);
    }

    private static void promise33_figures0And9() {
        GravediggerPaid x = Check.yard("g0;mf500;a00;");
        days(x, 0, 3);
        Check.due("0, 1, 2", x.whatIs(0, 1), 7);
        days(x, 3, 3);
        Check.due("9", x.whatIs(0, 1), 512);
        Check.due("his own is 5", x.mourner(0, 1), 5);
        days(x, 1, 3);
        Check.due("kinds with a figure of 5", x.whatIs(0, 0), 16 + 32);
        Check.due("he is as he was", x.mourner(0, 0), 4);
    }

    private static void promise33_othersStayThere() {
        GravediggerPaid x = Check.yard("g0;g0;mm000;ml000;ml000;a00;a10;a21;");
        days(x, 2, 4);
        Check.due("1 by himself: hired, lady", x.whatIs(0, 0), 2 + 32);
        days(x, 1, 4);
        Check.due("0: mourner, wit, family", x.whatIs(0, 0), 1 + 8 + 16);
    }

    private static void promise34_v0And99And100() {
        GravediggerPaid x = new GravediggerPaid();
        Check.due("0", x.row(0), 1);
        Check.due("99", x.row(99), 2);
        Refused.due("", "-1", y -> y.row(-1), Refused.BELOW);
        Refused.due("", "least", y -> y.row(Refused.LEAST), Refused.BELOW);
        Refused.due("", "100", y -> y.row(100), Refused.ROOM);
        Refused.due("", "greatest", y -> y.row(Refused.GREATEST), Refused.ROOM);
    }

    private static void promise34_the16thAndOneMore() {
        GravediggerPaid x = new GravediggerPaid();
        for (int i = 1; i <= 16; i++) {
            Check.due("row " + i, x.row(0), i);
        }
        Refused.by(x, "the 17th", y -> y.row(0), Refused.ROOM);
        Refused.by(x, "-1 of a full row", y -> y.row(-1), Refused.BELOW);
        Check.due("cleared", x.clear(), 16);
        Check.due("again", x.row(0), 1);
    }

    private static void promise34_aRefusedNumberIsNone() {
        GravediggerPaid x = Check.yard("mm007;mm008;");
        x.row(7);
        x.row(-1);
        x.row(100);
        x.row(8);
        Check.due("numbers", x.count(6), 2);
        Check.due("so", x.judge(), -9);
    }

    private static void promise35_aRowOfNone() {
        Check.due("without any", new GravediggerPaid().judge(), -9);
        Check.due("with mourners", Check.yard("mm007;").judge(), -9);
    }

    private static void promise35_nobodyThere() {
        GravediggerPaid x = new GravediggerPaid();
        x.row(0);
        Check.due("without mourners", x.judge(), 0);
        Check.due("none then", x.count(6), 0);
        Check.come(x, "mm000;mm099;");
        Check.row(x, 0, 99, 0);
        Check.due("one more", x.judge(), 2);
        Check.row(x, 1, 99, 0);
        Check.due("the first of two", x.judge(), 0);
        Check.row(x, 0, 98);
        Check.due("98", x.judge(), 1);
        Check.row(x, 0);
        Check.due("fewer numbers", x.judge(), -9);
    }

    private static void promise35_aRowOf16() {
        GravediggerPaid x = Check.yard("mm000;mm000;mm000;mm000;mm000;mm000;");
        days(x, 0, 16);
        Check.due("six are so", x.judge(), 6);
        Check.due("none then", x.count(6), 0);
        days(x, 0, 6);
        Check.due("all", x.judge(), -9);
        Check.due("none then either", x.count(6), 0);
        days(x, 1, 6);
        Check.due("the second", x.judge(), 1);
    }

    private static void promise36_ofNoneAnd16() {
        GravediggerPaid x = new GravediggerPaid();
        Check.due("none", x.clear(), 0);
        x.row(5);
        Check.due("one", x.clear(), 1);
        Check.due("none again", x.clear(), 0);
        days(x, 0, 16);
        Check.due("16", x.clear(), 16);
        Check.due("count", x.count(6), 0);
    }

    private static void promise37_n0And1And20And21() {
        Refused.due(ONE, "0", x -> x.lots(0, 7, 0), Refused.BELOW);
        Refused.due(ONE, "-1", x -> x.lots(-1, 7, 0), Refused.BELOW);
        Refused.due(ONE, "least", x -> x.lots(Refused.LEAST, 7, 0), Refused.BELOW);
        Refused.due(ONE, "21", x -> x.lots(21, 7, 0), Refused.ROOM);
        Refused.due(ONE, "greatest", x -> x.lots(Refused.GREATEST, 7, 0), Refused.ROOM);
        GravediggerPaid x = Check.yard("g0;ml000;");
        Check.due("1", x.lots(1, 7, 1), 10);
        Check.due("20", x.lots(20, 7, 1), 200);
        Check.due("20 times no foot", x.lots(20, 7, 0), 0);
        x.turn(0, 1, 2);
        Check.due("20 times one foot", x.lots(20, 7, 0), 20);
    }

    private static void promise37_refusedInOrder() {
        Refused.due("", "below before what", x -> x.lots(0, 0, 2), Refused.BELOW);
        Refused.due("", "above before what", x -> x.lots(21, 0, -1), Refused.ROOM);
        Refused.due("", "what before no graves", x -> x.lots(1, 0, 2), Refused.OTHER);
        Refused.due("", "what -1", x -> x.lots(20, 0, -1), Refused.OTHER);
        Refused.due(ONE, "what 2", x -> x.lots(20, 0, 2), Refused.OTHER);
        Refused.due("", "no graves", x -> x.lots(1, 0, 0), Refused.STATE);
        Refused.due(SIX, "mourners alone", x -> x.lots(20, 0, 1), Refused.STATE);
    }

    private static void promise37_withoutMourners() {
        GravediggerPaid x = Check.yard("g0;g0;g0;g0;g0;");
        Check.due("pay", x.lots(20, 1, 0), 0);
        Check.due("inches", x.lots(20, 1, 1), 0);
    }

    private static void promise37_theSeedAtBothEndsOfTheInts() {
        // Seed, pay and inches of 1, then of 20: his grief is the second draw of each two.
        int[][] due = {
            {0, 5, 63, 58, 759}, {1, 1, 19, 59, 839}, {-1, 0, 7, 28, 409},
            {Integer.MIN_VALUE, 5, 63, 58, 759}, {Integer.MAX_VALUE, 0, 7, 28, 409},
        };
        for (int[] d : due) {
            GravediggerPaid x = Check.yard("g0;mm000;");
            Check.due("pay of 1 by " + d[0], x.lots(1, d[0], 0), d[1]);
            Check.due("inches of 1 by " + d[0], x.lots(1, d[0], 1), d[2]);
            Check.due("pay of 20 by " + d[0], x.lots(20, d[0], 0), d[3]);
            Check.due("inches of 20 by " + d[0], x.lots(20, d[0], 1), d[4]);
        }
    }

    private static void promise37_theDrawWrapsAround() {
        // By seed 0: 3960563 below 5 is 3, 4673577 below 100 is 77; then 5360886: 1, 2816339: 39.
        GravediggerPaid x = Check.yard("g9;g9;g9;g0;g9;mm000;");
        Check.due("at 3 by 77", x.lots(1, 0, 1), 7 + 7 + 7 + 7 + 6 + 6 + 6 + 6 + 6 + 5);
        GravediggerPaid y = Check.yard("g9;g9;g9;g0;g9;mm000;mm000;");
        Check.due("and at 1 by 39: 25 of HARD 9", y.lots(1, 0, 1), 63 + 2);
        // By -1: 3954061 below 5 is 1, 3151820 below 100 is 20.
        GravediggerPaid z = Check.yard("g9;g0;g9;g9;g9;mm000;");
        Check.due("at 1 by 20", z.lots(1, Integer.MAX_VALUE, 1), 2 + 1 + 1 + 1 + 1 + 1);
    }

    private static void promise37_fromNow() {
        GravediggerPaid x = Check.dug(996);
        Check.due("83 already", x.lots(20, 3, 0), 20 * 83);
        Check.due("999 at most", x.lots(20, 3, 1), 20 * 3);
        Check.due("deep", x.grave(0, 1), 996);
        Check.due("grief", x.mourner(0, 2), 0);
        GravediggerPaid late = Check.yard(LAST_DAY);
        Check.come(late, "g0;ml000;");
        Check.due("above DAY 999 in thought", late.lots(1, 3, 1), 10);
        Check.due("he is nowhere still", late.mourner(0, 3), -9);
    }

    private static void promise38_ofANewObjectAndOfTheLastDay() {
        Check.due("new", new GravediggerPaid().image(), 0);
        Check.due("999", Check.yard(LAST_DAY).image(), 999);
    }

    private static void promise38_anotherIsTaken() {
        GravediggerPaid x = Check.yard("g0;ml000;a00;");
        x.image();
        x.days(5);
        Check.due("the second", x.image(), 5);
        x.days(5);
        Check.due("on from the second", x.on(), 5);
        Check.due("deep", x.grave(0, 1), 5);
    }

    private static void promise39_withoutAnImage() {
        Refused.due("", "new", x -> x.on(), Refused.STATE);
        Refused.due(ONE, "with all else", x -> x.on(), Refused.STATE);
    }

    private static void promise39_fromNothing() {
        GravediggerPaid x = new GravediggerPaid();
        x.image();
        Check.come(x, "g5;g0;mo999;ml000;a01;a11;d09;");
        Check.due("day", x.on(), 0);
        for (int what = 0; what <= 5; what++) {
            Check.due("count " + what, x.count(what), 0);
        }
        Check.due("no grave", x.grave(0, 0), -1);
        Check.due("no mourner", x.mourner(0, 0), -1);
        Check.come(x, "g5;g0;mm000;");
        Check.due("a new grave", x.grave(1, 1), 0);
        Check.due("a new mourner", x.mourner(0, 3), -9);
    }

    private static void promise39_allIsAsThen() {
        GravediggerPaid x = Check.yard("g9;g0;mf550;ml000;mo999;a00;a11;d07;");
        x.image();
        String then = Refused.state(x);
        Check.come(x, "g0;g0;g0;mm000;mm000;mm000;h00;h19;t0;t1;n0;a11;a21;d60;");
        x.turn(0, 0, 0);
        x.grieves(2, 0);
        Check.due("on", x.on(), 7);
        Check.due("all", Refused.state(x).compareTo(then), 0);
        x.days(60);
        Check.due("on again", x.on(), 7);
        Check.due("all again", Refused.state(x).compareTo(then), 0);
        x.days(60);
        x.leaves(1);
        x.hardens(1, 9);
        Check.due("and again", x.on(), 7);
        Check.due("all once more", Refused.state(x).compareTo(then), 0);
    }

    private static void promise39_rowLettersRefusalsStay() {
        GravediggerPaid x = Check.yard("g0;mm007;mm008;");
        x.row(7);
        x.letter('g');
        x.leaves(0);
        x.image();
        x.row(9);
        x.letter('5');
        x.leaves(0);
        x.days(0);
        x.on();
        Check.due("row", x.count(6), 2);
        Check.due("letters", x.count(7), 2);
        Check.due("refusals -3", x.count(13), 2);
        Check.due("refusals -4", x.count(14), 1);
        Check.due("the row as it is", x.judge(), 1);
        x.letter(';');
        Check.due("the letters as they are", x.yard(), 1);
        Check.due("hard", x.grave(1, 0), 5);
        x.clear();
        x.on();
        Check.due("none in the row", x.count(6), 0);
        Check.due("no letters", x.count(7), 0);
    }

    private static void promise40_aCountThatHasNoMeaning() {
        GravediggerPaid x = Check.yard(ONE);
        x.leaves(1);
        int[] others = {-1, 8, 9, 10, 17, 18, 100, Integer.MIN_VALUE, Integer.MAX_VALUE};
        for (int what : others) {
            Check.due("count " + what, x.count(what), -9);
        }
        int[] refusals = {1, 0, 0, 0, 0, 0};
        for (int i = 0; i < 6; i++) {
            Check.due("refusals -" + (i + 1), x.count(11 + i), refusals[i]);
        }
    }

    private static void promise40_nothingAndAllThereIsRoomFor() {
        for (int what = 0; what <= 7; what++) {
            Check.due("new " + what, new GravediggerPaid().count(what), 0);
        }
        GravediggerPaid x = Check.yard("g0;g0;g0;g0;g0;mm099;mm099;mm099;mm099;mm099;mm099;");
        days(x, 1, 16);
        for (int i = 0; i < 96; i++) {
            x.letter('g');
        }
        int[] due = {5, 6, 0, 0, 0, 594, 16, 96};
        for (int what = 0; what <= 7; what++) {
            Check.due("full " + what, x.count(what), due[what]);
        }
    }

    private static void promise40_deep999OfFive() {
        GravediggerPaid x = Check.yard("g0;g0;g0;g0;g0;mo900;mo900;mo900;mo900;mo900;");
        for (int m = 0; m < 5; m++) {
            x.goes(m, m);
        }
        x.days(60);
        Check.due("pay", x.days(60), 5 * 83);
        Check.due("all pay", x.count(3), 5 * 83);
        Check.due("all inches", x.count(4), 5 * 999);
        Check.due("day", x.count(2), 120);
    }

    private static void promise40_eachRefusalByItsNumber() {
        GravediggerPaid x = Check.yard("g0;mm000;");
        x.grave(1, 0);
        for (int i = 0; i < 2; i++) {
            x.first(5);
        }
        for (int i = 0; i < 3; i++) {
            x.leaves(0);
        }
        for (int i = 0; i < 4; i++) {
            x.days(0);
        }
        for (int i = 0; i < 6; i++) {
            x.days(61);
        }
        int[] due = {1, 2, 3, 4, 0, 6};
        for (int i = 0; i < 6; i++) {
            Check.due("refusals -" + (i + 1), x.count(11 + i), due[i]);
        }
        x.onion(1, 1);
        x.share(0, 0);
        x.mean(2);
        x.winter(0, 8, 2, 0, 0);
        x.winter(0, 0, 1, 0, 0);
        int[] then = {2, 3, 4, 5, 0, 7};
        for (int i = 0; i < 6; i++) {
            Check.due("with longs -" + (i + 1), x.count(11 + i), then[i]);
        }
    }

    private static void promise40_512Calls() {
        GravediggerPaid x = new GravediggerPaid();
        for (int i = 1; i <= 511; i++) {
            x.hears(0);
        }
        Check.due("511 refusals", x.count(11), 511);
    }

    private static void promise40_minus9IsNoRefusal() {
        GravediggerPaid x = Check.yard("g0;mm000;");
        x.first(0);
        x.seat(-1);
        x.tell(1);
        x.send(1, 1);
        x.tears();
        x.judge();
        x.count(99);
        for (int what = 11; what <= 16; what++) {
            Check.due("refusals " + what, x.count(what), 0);
        }
    }
}
