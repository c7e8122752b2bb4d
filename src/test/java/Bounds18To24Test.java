/** The boundary cases of promises 18 to 24: seats, the fewest, tell, send, bring, change, onion. */
public final class Bounds18To24Test {
    private static final String ONE = "g3;mm550;a00;";
    private static final String SIX = "mh100;mh100;mh100;mh100;mh100;mh100;";
    private static final String LAST_DAY = "d60;".repeat(16) + "d39;";

    public static void main(String[] args) throws ReflectiveOperationException {
        Promises.run(Bounds18To24Test.class);
    }

    private static GravediggerPaid atTheLastDay(String text) {
        GravediggerPaid x = Check.yard(LAST_DAY);
        Check.come(x, text);
        return x;
    }

    private static void seats(GravediggerPaid x, int most, int... graves) {
        Check.due("most", x.seat(-1), most);
        for (int m = 0; m < graves.length; m++) {
            Check.due("seat of " + m, x.seat(m), graves[m]);
        }
    }

    private static void promise18_nobody() {
        Refused.due("", "without any", x -> x.seat(0), Refused.NOBODY);
        Refused.due("g0;", "without mourners", x -> x.seat(0), Refused.NOBODY);
        Refused.due(ONE, "one more", x -> x.seat(1), Refused.NOBODY);
        Refused.due(ONE, "-2", x -> x.seat(-2), Refused.NOBODY);
        Refused.due(ONE, "-9", x -> x.seat(-9), Refused.NOBODY);
        Refused.due(ONE, "least", x -> x.seat(Refused.LEAST), Refused.NOBODY);
        Refused.due(ONE, "greatest", x -> x.seat(Refused.GREATEST), Refused.NOBODY);
        Refused.due("g0;" + SIX, "the seventh", x -> x.seat(6), Refused.NOBODY);
    }

    private static void promise18_withoutGraves() {
        seats(new GravediggerPaid(), 0);
        seats(Check.yard("mo900;ml000;"), 0, -9, -9);
    }

    private static void promise18_withoutMourners() {
        seats(Check.yard("g0;g0;g0;g0;g0;"), 0);
        // WET above HARD stays where nobody is set.
        seats(Check.yard("g9;ml000;a00;d09;h00;g0;"), 10, 0);
    }

    private static void promise18_fiveGravesAndSixMourners() {
        String mourners = "mo900;mh100;mm050;mw050;mf350;ml000;";
        seats(Check.yard("g9;g9;g9;g9;g0;" + mourners), 10 + 1 + 5 + 5 + 6 + 1, 4, 4, 4, 4, 4, 4);
        seats(Check.yard("g0;g0;g0;g0;g0;" + mourners), 28, 0, 0, 0, 0, 0, 0);
        seats(Check.yard("g9;g9;g9;g9;g9;" + mourners), 2, 0, 0, 0, 0, 0, 0);
        seats(Check.yard("g9;g9;g9;g0;g0;" + mourners), 28, 3, 3, 3, 3, 3, 3);
    }

    private static void promise18_eachMustFillItsOwnGrave() {
        // WET 9 at each of five graves of HARD 9, and six who weep 1: five go apart.
        GravediggerPaid x = Check.yard("g9;g9;g9;g9;g9;" + SIX + "a00;a11;a22;a33;a44;d09;");
        seats(x, 5, 0, 0, 1, 2, 3, 4);
        x.turn(0, 2, 9);
        seats(x, 6, 0, 0, 1, 2, 3, 4);
    }

    private static void promise18_theFirstByMourners() {
        seats(Check.yard("g1;g1;ml000;ml000;a00;a11;d01;"), 2, 0, 1);
        seats(Check.yard("g1;g1;ml000;ml000;"), 1, 0, 0);
        seats(Check.yard("g1;g0;ml000;mh200;"), 3, 1, 1);
        seats(Check.yard("g1;g0;mh200;ml000;"), 3, 1, 1);
        // WET 1 and the softer ground: 0 and 1, 1 and 0, and both at 1 make two inches each.
        seats(Check.yard("g1;g0;ml000;ml000;a00;d01;"), 2, 0, 1);
    }

    private static void promise18_nobodyWeeps() {
        seats(Check.yard("g0;g0;mm000;mw049;"), 0, 0, 0);
        // The one who weeps 0 frees what the softer ground holds; nobody else is needed there.
        GravediggerPaid x = Check.yard("g0;g9;ml000;mm000;a01;d09;h10;");
        x.turn(0, 0, 0);
        seats(x, 9, 0, 1);
    }

    private static void promise18_asIfWithoutAnEnd() {
        GravediggerPaid x = Check.dug(999);
        seats(x, 1, 0);
        Check.come(x, "g0;mo900;");
        seats(x, 11, 0, 0);
    }

    private static void promise18_whereTheyAreAndTheDayAreNothing() {
        seats(Check.yard("g1;g0;mo900;a00;"), 10, 1);
        seats(atTheLastDay("g0;mo900;"), 10, 0);
    }

    private static void promise19_v0And99And100() {
        GravediggerPaid x = Check.yard("g0;ml000;mo900;");
        Check.due("0", x.fewest(0, 0, 30), 0);
        Check.due("1", x.fewest(0, 1, 30), 1);
        Check.due("99", x.fewest(0, 99, 30), 2);
        Refused.due(ONE, "100", y -> y.fewest(0, 100, 30), Refused.ROOM);
        Refused.due(ONE, "greatest", y -> y.fewest(0, Refused.GREATEST, 30), Refused.ROOM);
        Refused.due(ONE, "-1", y -> y.fewest(0, -1, 30), Refused.BELOW);
        Refused.due(ONE, "least", y -> y.fewest(0, Refused.LEAST, 30), Refused.BELOW);
    }

    private static void promise19_n0And30And31() {
        GravediggerPaid x = Check.yard("g0;ml000;");
        Check.due("0 in 0", x.fewest(0, 0, 0), 0);
        Check.due("1 in 0", x.fewest(0, 1, 0), -9);
        Check.due("1 in 1", x.fewest(0, 1, 1), 1);
        Check.due("2 in 1", x.fewest(0, 2, 1), -9);
        Check.due("30 in 30", x.fewest(0, 30, 30), 1);
        Check.due("31 in 30", x.fewest(0, 31, 30), -9);
        Refused.due(ONE, "31", y -> y.fewest(0, 0, 31), Refused.ROOM);
        Refused.due(ONE, "greatest", y -> y.fewest(0, 0, Refused.GREATEST), Refused.ROOM);
        Refused.due(ONE, "-1", y -> y.fewest(0, 0, -1), Refused.BELOW);
        Refused.due(ONE, "least", y -> y.fewest(0, 0, Refused.LEAST), Refused.BELOW);
    }

    private static void promise19_refusedInOrder() {
        Refused.due("", "without graves", x -> x.fewest(0, 0, 0), Refused.NOBODY);
        Refused.due(ONE, "nobody first", x -> x.fewest(1, -1, -1), Refused.NOBODY);
        Refused.due(ONE, "nobody below", x -> x.fewest(-1, 100, 31), Refused.NOBODY);
        Refused.due(ONE, "below in v before above in n", x -> x.fewest(0, -1, 31), Refused.BELOW);
        Refused.due(ONE, "below in n before above in v", x -> x.fewest(0, 100, -1), Refused.BELOW);
        Refused.due(ONE, "both above", x -> x.fewest(0, 100, 31), Refused.ROOM);
    }

    private static void promise19_withoutMourners() {
        GravediggerPaid x = Check.yard("g0;");
        Check.due("0", x.fewest(0, 0, 30), 0);
        Check.due("1", x.fewest(0, 1, 30), -9);
    }

    private static void promise19_deepAlready() {
        GravediggerPaid x = Check.dug(99);
        Check.due("none is needed", x.fewest(0, 99, 0), 0);
        Check.due("one", Check.dug(98).fewest(0, 99, 1), 1);
        Check.due("one is not enough", Check.dug(97).fewest(0, 99, 1), -9);
    }

    private static void promise19_fewestOfSix() {
        GravediggerPaid x = Check.yard("g0;g0;" + SIX + "a01;a11;a20;");
        Check.due("all six", x.fewest(0, 6, 1), 63);
        Check.due("seven", x.fewest(0, 7, 1), -9);
        Check.due("five, the least", x.fewest(0, 5, 1), 31);
        Check.due("one, the least", x.fewest(0, 1, 1), 1);
        x.turn(5, 2, 9);
        Check.due("one, though two have lesser bits", x.fewest(0, 2, 1), 32);
        Check.due("the only one", x.fewest(0, 10, 1), 32);
        Check.due("two, the least", x.fewest(0, 11, 1), 33);
        x.turn(4, 2, 9);
        Check.due("the least of two", x.fewest(0, 10, 1), 16);
        Check.due("two", x.fewest(0, 20, 1), 48);
        Check.due("three", x.fewest(0, 21, 1), 49);
        Check.due("24", x.fewest(0, 24, 1), 63);
        Check.due("25", x.fewest(0, 25, 1), -9);
    }

    private static void promise19_dayAbove999InThought() {
        Check.due("30", atTheLastDay("g0;ml000;").fewest(0, 30, 30), 1);
    }

    private static void promise20_n0And1And30And31() {
        GravediggerPaid x = Check.yard("g0;mm000;a00;");
        Check.due("1", x.tell(1), 0);
        Check.due("30", x.tell(30), 0);
        Refused.due(ONE, "0", y -> y.tell(0), Refused.BELOW);
        Refused.due(ONE, "-1", y -> y.tell(-1), Refused.BELOW);
        Refused.due(ONE, "least", y -> y.tell(Refused.LEAST), Refused.BELOW);
        Refused.due(ONE, "31", y -> y.tell(31), Refused.ROOM);
        Refused.due(ONE, "greatest", y -> y.tell(Refused.GREATEST), Refused.ROOM);
    }

    private static void promise20_nobody() {
        Check.due("without any", new GravediggerPaid().tell(30), -9);
        Check.due("without mourners", Check.yard("g0;").tell(30), -9);
        Check.due("without graves", Check.yard("mm000;").tell(30), -9);
        Check.due("nobody at a grave", Check.yard("g0;mm000;").tell(30), -9);
    }

    private static void promise20_moreThanElse() {
        Check.due("grief 99", Check.yard("g0;mm099;mf999;a00;a10;").tell(30), -9);
        Check.due("hired, onion, wit, lady", Check.yard("g0;mh900;mo900;mw049;ml000;a00;a10;a20;a30;").tell(30), -9);
        GravediggerPaid x = Check.yard("g0;mm090;a00;");
        Check.due("9 by 90 and by 99", x.tell(1), -9);
        Check.due("8 by 88, 9 by 97", x.tell(2), 0);
        Check.due("999 inches", deepMourner(999).tell(30), -9);
        Check.due("998 inches and 1 more is 999 by either", deepMourner(998).tell(1), -9);
        Check.due("997 inches", deepMourner(997).tell(1), 0);
    }

    /** A mourner of grief 10 at a grave so deep. */
    private static GravediggerPaid deepMourner(int inches) {
        GravediggerPaid x = Check.dug(inches);
        x.turn(0, 0, 0);
        x.grieves(0, 10);
        return x;
    }

    private static void promise20_ofSeveralTheLeast() {
        GravediggerPaid x = Check.yard("g0;g1;mm000;mm000;mf000;mm000;a10;a30;");
        Check.due("1 of two", x.tell(1), 1);
        x.goes(2, 1);
        Check.due("one inch is less than two", x.tell(1), 1);
        x.goes(2, 0);
        Check.due("family is more", x.tell(1), 2);
        x.goes(0, 0);
        Check.due("family still", x.tell(1), 2);
        x.leaves(2);
        Check.due("0 of three", x.tell(1), 0);
    }

    private static void promise20_dayAbove999InThought() {
        Check.due("30", atTheLastDay("g0;ml000;mm000;a00;a10;").tell(30), 1);
    }

    private static void promise20_theSixth() {
        GravediggerPaid x = Check.yard("g0;mm000;mm000;mm000;mm000;mm000;ml000;a50;");
        Check.due("a lady weeps no more", x.tell(30), -9);
        x.turn(5, 4, 0);
        Check.due("the sixth", x.tell(30), 5);
    }

    private static void promise21_n0And1And30And31() {
        GravediggerPaid x = Check.dug(0);
        Check.due("1", x.send(1, 1), 1);
        Check.due("30", x.send(30, 1), 30);
        Refused.due(ONE, "0", y -> y.send(0, 0), Refused.BELOW);
        Refused.due(ONE, "-1", y -> y.send(-1, 1), Refused.BELOW);
        Refused.due(ONE, "least", y -> y.send(Refused.LEAST, 1), Refused.BELOW);
        Refused.due(ONE, "31", y -> y.send(31, 0), Refused.ROOM);
        Refused.due(ONE, "greatest", y -> y.send(Refused.GREATEST, 0), Refused.ROOM);
    }

    private static void promise21_anotherWhatLast() {
        Refused.due(ONE, "-1", x -> x.send(1, -1), Refused.OTHER);
        Refused.due(ONE, "2", x -> x.send(30, 2), Refused.OTHER);
        Refused.due("", "without any", x -> x.send(30, 2), Refused.OTHER);
        Refused.due(ONE, "below first", x -> x.send(0, 2), Refused.BELOW);
        Refused.due(ONE, "above first", x -> x.send(31, -1), Refused.ROOM);
    }

    private static void promise21_nobodyAtAGrave() {
        for (String text : new String[] {"", "g0;", "mo900;", "g0;mo900;"}) {
            GravediggerPaid x = new GravediggerPaid();
            Check.tell(x, text);
            Check.due("who of " + text, x.send(1, 0), -9);
            Check.due("how many of " + text, x.send(1, 1), -9);
        }
    }

    private static void promise21_nothingIsLost() {
        GravediggerPaid x = Check.yard("g0;ml000;mm009;mm000;a00;a10;a20;");
        Check.due("who weeps 0", x.send(30, 0), 1);
        Check.due("how many", x.send(30, 1), 0);
        GravediggerPaid deep = Check.dug(999);
        Check.due("999", deep.send(30, 0), 0);
        Check.due("nothing more", deep.send(30, 1), 0);
        GravediggerPaid left = Check.dug(995);
        Check.due("four are left", left.send(30, 1), 4);
    }

    private static void promise21_dayAbove999InThought() {
        Check.due("30", atTheLastDay("g0;ml000;a00;").send(30, 1), 30);
    }

    private static void promise21_ofSeveralTheLeast() {
        GravediggerPaid x = Check.yard("g0;g9;ml000;mh200;mh300;mh200;mo000;ml000;a10;a20;a30;a40;");
        Check.due("who is nowhere is nobody", x.send(1, 0), 1);
        Check.due("two", x.send(1, 1), 2);
        x.goes(5, 0);
        Check.due("the sixth", x.send(1, 0), 5);
        x.goes(0, 0);
        Check.due("the first", x.send(1, 0), 0);
        x.goes(3, 1);
        Check.due("in the hardest nothing yet", x.send(4, 0), 3);
        Check.due("an inch in five days", x.send(5, 1), 1);
    }

    private static void promise22_n0And30And31() {
        GravediggerPaid x = Check.yard("g1;g0;ml000;a00;");
        Check.due("0", x.bring(0, 0), -9);
        Check.due("11", x.bring(0, 11), -9);
        Check.due("12", x.bring(0, 12), 1);
        Check.due("30", x.bring(0, 30), 1);
        Refused.due(ONE, "31", y -> y.bring(0, 31), Refused.ROOM);
        Refused.due(ONE, "greatest", y -> y.bring(0, Refused.GREATEST), Refused.ROOM);
        Refused.due(ONE, "-1", y -> y.bring(0, -1), Refused.BELOW);
        Refused.due(ONE, "least", y -> y.bring(0, Refused.LEAST), Refused.BELOW);
    }

    private static void promise22_nobodyFirst() {
        Refused.due("", "without any", x -> x.bring(0, 0), Refused.NOBODY);
        Refused.due(ONE, "before below", x -> x.bring(1, -1), Refused.NOBODY);
        Refused.due(ONE, "before above", x -> x.bring(-1, 31), Refused.NOBODY);
        Refused.due(ONE + "mm000;", "one more", x -> x.bring(2, 1), Refused.NOBODY);
    }

    private static void promise22_dayAbove999InThought() {
        Check.due("30", atTheLastDay("g9;g0;ml000;a00;").bring(0, 30), 1);
    }

    private static void promise22_noGraveIsBetter() {
        Check.due("without graves", Check.yard("mo900;").bring(0, 30), -9);
        Check.due("where he is", Check.yard("g0;mo900;a00;").bring(0, 30), -9);
        Check.due("as well elsewhere", Check.yard("g0;g0;mo900;a00;").bring(0, 30), -9);
        Check.due("from nowhere", Check.yard("g0;g0;mo900;").bring(0, 30), 0);
        Check.due("from nowhere, weeps 0", Check.yard("g0;mm000;").bring(0, 30), -9);
        Check.due("the fifth", Check.yard("g9;g9;g9;g9;g0;ml000;a00;").bring(0, 30), 4);
        Check.due("of two the least", Check.yard("g9;g9;g0;g9;g0;ml000;a00;").bring(0, 30), 2);
        GravediggerPaid x = Check.dug(995);
        Check.come(x, "g0;");
        Check.due("a foot there is none here", x.bring(0, 11), -9);
        Check.due("a foot for a foot", x.bring(0, 12), -9);
        x.days(1);
        Check.due("996 pays no more", x.bring(0, 12), 1);
    }

    private static void promise23_n0And30And31() {
        GravediggerPaid x = Check.yard("g9;g0;mo900;ml000;a00;a11;");
        Check.due("0", x.change(0), -9);
        Check.due("1", x.change(1), -9);
        Check.due("2", x.change(2), 1);
        Check.due("30", x.change(30), 1);
        Refused.due(ONE, "31", y -> y.change(31), Refused.ROOM);
        Refused.due(ONE, "greatest", y -> y.change(Refused.GREATEST), Refused.ROOM);
        Refused.due(ONE, "-1", y -> y.change(-1), Refused.BELOW);
        Refused.due(ONE, "least", y -> y.change(Refused.LEAST), Refused.BELOW);
    }

    private static void promise23_dayAbove999InThought() {
        Check.due("30", atTheLastDay("g9;g0;mo900;ml000;a00;a11;").change(30), 1);
    }

    private static void promise23_noTwoAreBetter() {
        Check.due("without any", new GravediggerPaid().change(30), -9);
        Check.due("one alone", Check.yard("g0;mo900;").change(30), -9);
        Check.due("without graves", Check.yard("mo900;ml000;").change(30), -9);
        Check.due("both nowhere", Check.yard("g0;mo900;ml000;").change(30), -9);
        Check.due("both at one", Check.yard("g0;g9;mo900;ml000;a00;a10;").change(30), -9);
        Check.due("as well", Check.yard("g0;g0;mo900;ml000;a00;a11;").change(30), -9);
        Check.due("one is nowhere", Check.yard("g0;mo900;ml000;a10;").change(30), 1);
    }

    private static void promise23_theLesserAndTheOther() {
        GravediggerPaid x = Check.yard("g9;g0;mh000;mh000;mh000;mh000;mh000;mo900;a50;a41;");
        Check.due("4 and 5", x.change(30), 45);
        x.goes(1, 1);
        Check.due("the first of several", x.change(30), 15);
        x.goes(0, 1);
        Check.due("0 and 5", x.change(30), 5);
        GravediggerPaid y = Check.yard("g9;g0;mo900;ml000;mo900;ml000;a00;a11;a20;a31;");
        Check.due("0 and 1 of four pairs", y.change(30), 1);
        y.goes(1, 0);
        Check.due("0 and 3", y.change(30), 3);
        y.goes(0, 1);
        Check.due("2 and 3", y.change(30), 23);
    }

    private static void promise24_n0And1And30And31() {
        GravediggerPaid x = Check.yard("g0;mh900;a00;");
        Check.due("1", x.onion(0, 1), 5);
        Check.due("30", x.onion(0, 30), 150);
        Refused.onion(ONE, "0", y -> y.onion(0, 0), Refused.BELOW);
        Refused.onion(ONE, "-1", y -> y.onion(0, -1), Refused.BELOW);
        Refused.onion(ONE, "least", y -> y.onion(0, Refused.LEAST), Refused.BELOW);
        Refused.onion(ONE, "31", y -> y.onion(0, 31), Refused.ROOM);
        Refused.onion(ONE, "greatest", y -> y.onion(0, Refused.GREATEST), Refused.ROOM);
    }

    private static void promise24_nobodyFirst() {
        Refused.onion("", "without any", x -> x.onion(0, 1), Refused.NOBODY);
        Refused.onion(ONE, "before below", x -> x.onion(1, 0), Refused.NOBODY);
        Refused.onion(ONE, "before above", x -> x.onion(-1, 31), Refused.NOBODY);
        Check.due("told so", new GravediggerPaid().onion(0, 1), 1000000001);
        Check.due("below told so", Check.yard(ONE).onion(0, 0), 1000000004);
        Check.due("above told so", Check.yard(ONE).onion(0, 31), 1000000006);
    }

    private static void promise24_dayAbove999InThought() {
        Check.due("30", atTheLastDay("g0;ml900;a00;").onion(0, 30), 9 * 30);
    }

    private static void promise24_below0AndNothing() {
        Check.due("below 0", Check.yard("g0;mm099;a00;").onion(0, 1), 2 - 9);
        // Family of 99, 98 .. 70, and three more a day.
        Check.due("below 0 in 30", Check.yard("g0;mf999;a00;").onion(0, 30), 300 - (9 * 10 + 8 * 10 + 7 * 10 + 90));
        Check.due("an onion", Check.yard("g0;mo900;a00;").onion(0, 30), 0);
        Check.due("nowhere", Check.yard("g0;ml900;").onion(0, 30), 0);
        Check.due("without graves", Check.yard("ml900;").onion(0, 30), 0);
        Check.due("999", Check.dug(999).onion(0, 30), 0);
        Check.due("998 and a lady's inch", Check.dug(998).onion(0, 1), 0);
        Check.due("997 and two", Check.dug(997).onion(0, 1), 1);
        GravediggerPaid x = Check.yard("g0;mm099;a00;");
        x.onion(0, 30);
        Check.due("he is as he was", x.mourner(0, 0), 0);
    }
}
