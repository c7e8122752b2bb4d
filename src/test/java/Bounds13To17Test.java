/** The boundary cases of promises 13 to 17: in mind, deep enough, the first, the driest. */
public final class Bounds13To17Test {
    private static final String ONE = "g3;mm550;";
    private static final String TILL_960 = "d60;".repeat(16);

    public static void main(String[] args) throws ReflectiveOperationException {
        Promises.run(Bounds13To17Test.class);
    }

    /** DAY 999, and then a lady at a grave of HARD 0. */
    private static GravediggerPaid atTheLastDay() {
        GravediggerPaid x = Check.yard(TILL_960 + "d39;");
        Check.come(x, "g0;ml000;mm099;a00;");
        return x;
    }

    private static void promise13_n0And60And61() {
        GravediggerPaid x = Check.yard("g2;ml000;a00;d02;");
        Check.due("0 days, deep", x.graveThen(0, 0, 0), 0);
        Check.due("0 days, wet", x.graveThen(0, 0, 1), 2);
        Check.due("1 day, deep", x.graveThen(0, 1, 0), 1);
        Check.due("1 day, wet", x.graveThen(0, 1, 1), 0);
        Check.due("60 days, deep", x.graveThen(0, 60, 0), 20);
        Check.due("60 days, wet", x.graveThen(0, 60, 1), 2);
        Refused.due(ONE, "61", y -> y.graveThen(0, 61, 0), Refused.ROOM);
        Refused.due(ONE, "greatest", y -> y.graveThen(0, Refused.GREATEST, 0), Refused.ROOM);
        Refused.due(ONE, "-1", y -> y.graveThen(0, -1, 0), Refused.BELOW);
        Refused.due(ONE, "least", y -> y.graveThen(0, Refused.LEAST, 0), Refused.BELOW);
    }

    private static void promise13_refusedInOrder() {
        Refused.due("", "without graves", x -> x.graveThen(0, 0, 0), Refused.NOBODY);
        Refused.due(ONE, "nobody first", x -> x.graveThen(1, -1, 2), Refused.NOBODY);
        Refused.due(ONE, "nobody below", x -> x.graveThen(-1, 61, 2), Refused.NOBODY);
        Refused.due(ONE, "below before what", x -> x.graveThen(0, -1, 2), Refused.BELOW);
        Refused.due(ONE, "above before what", x -> x.graveThen(0, 61, 2), Refused.ROOM);
        Refused.due(ONE, "what 2", x -> x.graveThen(0, 60, 2), Refused.OTHER);
        Refused.due(ONE, "what -1", x -> x.graveThen(0, 0, -1), Refused.OTHER);
    }

    private static void promise13_deep999AndWetThen() {
        GravediggerPaid x = Check.dug(950);
        x.hardens(0, 1);
        x.turn(0, 1, 4);
        Check.due("33 days: 49", x.graveThen(0, 33, 0), 999);
        Check.due("wet of 99 by 2", x.graveThen(0, 33, 1), 1);
        Check.due("32 days: 48", x.graveThen(0, 32, 0), 998);
        Check.due("60 days", x.graveThen(0, 60, 0), 999);
        Check.due("wet of 180 by 2", x.graveThen(0, 60, 1), 0);
        Check.due("now", x.grave(0, 1), 950);
    }

    private static void promise13_dayAbove999InThought() {
        GravediggerPaid x = atTheLastDay();
        Check.due("one day", x.graveThen(0, 1, 0), 1);
        Check.due("60 days", x.graveThen(0, 60, 0), 60);
        Check.due("day", x.count(2), 999);
    }

    private static void promise14_n0And60And61() {
        GravediggerPaid x = Check.yard("mf099;");
        Check.due("0", x.griefThen(0, 0), 99);
        Check.due("1", x.griefThen(0, 1), 98);
        Check.due("60", x.griefThen(0, 60), 39);
        Refused.due(ONE, "61", y -> y.griefThen(0, 61), Refused.ROOM);
        Refused.due(ONE, "greatest", y -> y.griefThen(0, Refused.GREATEST), Refused.ROOM);
        Refused.due(ONE, "-1", y -> y.griefThen(0, -1), Refused.BELOW);
        Refused.due(ONE, "least", y -> y.griefThen(0, Refused.LEAST), Refused.BELOW);
    }

    private static void promise14_nobodyFirst() {
        Refused.due("", "without", x -> x.griefThen(0, 0), Refused.NOBODY);
        Refused.due(ONE, "before below", x -> x.griefThen(1, -1), Refused.NOBODY);
        Refused.due(ONE, "before above", x -> x.griefThen(-1, 61), Refused.NOBODY);
    }

    private static void promise14_never0Below() {
        GravediggerPaid x = Check.yard("mm099;mm001;mf060;mf059;mh001;");
        Check.due("99 in 49 days", x.griefThen(0, 49), 1);
        Check.due("in 50", x.griefThen(0, 50), 0);
        Check.due("in 60", x.griefThen(0, 60), 0);
        Check.due("1 in one", x.griefThen(1, 1), 0);
        Check.due("60 in 59", x.griefThen(2, 59), 1);
        Check.due("60 in 60", x.griefThen(2, 60), 0);
        Check.due("59 in 60", x.griefThen(3, 60), 0);
        Check.due("hired", x.griefThen(4, 60), 1);
        Check.due("above 999", atTheLastDay().griefThen(1, 49), 1);
    }

    private static void promise15_n0And60And61() {
        GravediggerPaid x = Check.dug(12);
        Check.due("0", x.payThen(0), 1);
        Check.due("11", x.payThen(11), 1);
        Check.due("12", x.payThen(12), 2);
        Check.due("60", x.payThen(60), 6);
        Refused.due(ONE, "61", y -> y.payThen(61), Refused.ROOM);
        Refused.due(ONE, "greatest", y -> y.payThen(Refused.GREATEST), Refused.ROOM);
        Refused.due(ONE, "-1", y -> y.payThen(-1), Refused.BELOW);
        Refused.due(ONE, "least", y -> y.payThen(Refused.LEAST), Refused.BELOW);
    }

    private static void promise15_withoutGravesAndFull() {
        Check.due("without", new GravediggerPaid().payThen(60), 0);
        Check.due("mourners alone", Check.yard("mo900;").payThen(60), 0);
        Check.due("above 999", atTheLastDay().payThen(60), 5);
        Check.due("999 inches", Check.dug(995).payThen(60), 83);
        GravediggerPaid x = Check.yard("g0;g0;g0;g0;g0;mo900;mo900;mo900;mo900;mo900;ml000;");
        for (int m = 0; m < 6; m++) {
            x.goes(m, Math.min(4, m));
        }
        Check.due("600 each and 60", x.payThen(60), 50 * 4 + 55);
    }

    private static void promise16_v0And99And100() {
        GravediggerPaid x = Check.yard("g0;mh200;a00;");
        Check.due("0", x.deep(0, 0), 0);
        Check.due("1", x.deep(0, 1), 1);
        Check.due("99", x.deep(0, 99), 50);
        Refused.due(ONE, "100", y -> y.deep(0, 100), Refused.ROOM);
        Refused.due(ONE, "greatest", y -> y.deep(0, Refused.GREATEST), Refused.ROOM);
        Refused.due(ONE, "-1", y -> y.deep(0, -1), Refused.BELOW);
        Refused.due(ONE, "least", y -> y.deep(0, Refused.LEAST), Refused.BELOW);
    }

    private static void promise16_nobodyFirst() {
        Refused.due("", "without", x -> x.deep(0, 0), Refused.NOBODY);
        Refused.due(ONE, "before below", x -> x.deep(1, -1), Refused.NOBODY);
        Refused.due(ONE, "before above", x -> x.deep(-1, 100), Refused.NOBODY);
    }

    private static void promise16_within60Days() {
        GravediggerPaid x = Check.dug(0);
        Check.due("59", x.deep(0, 59), 59);
        Check.due("60", x.deep(0, 60), 60);
        Check.due("61", x.deep(0, 61), -9);
        Check.due("nobody there", Check.yard("g0;").deep(0, 1), -9);
        Check.due("above 999", atTheLastDay().deep(0, 60), 60);
    }

    private static void promise16_deepAlready() {
        Check.due("as deep", Check.dug(99).deep(0, 99), 0);
        Check.due("an inch less", Check.dug(98).deep(0, 99), 1);
        Check.due("999", Check.dug(999).deep(0, 99), 0);
    }

    private static void promise17_anotherWhat() {
        Refused.due(ONE, "-1", x -> x.first(-1), Refused.OTHER);
        Refused.due(ONE, "5", x -> x.first(5), Refused.OTHER);
        Refused.due("", "least", x -> x.first(Refused.LEAST), Refused.OTHER);
        Refused.due("", "greatest", x -> x.first(Refused.GREATEST), Refused.OTHER);
    }

    private static void promise17_withoutGraves() {
        for (String text : new String[] {"", "mo900;"}) {
            GravediggerPaid x = new GravediggerPaid();
            Check.tell(x, text);
            int[] due = {-9, -9, 0, -9, -9};
            for (int what = 0; what <= 4; what++) {
                Check.due("what " + what + " with " + text, x.first(what), due[what]);
            }
        }
    }

    private static void promise17_firstWithin60() {
        GravediggerPaid x = Check.yard("g4;ml000;a00;");
        Check.due("which in 60", x.first(0), 0);
        Check.due("when", x.first(1), 60);
        x.days(4);
        Check.due("WET 4 is four days less", x.first(1), 56);
        x.hardens(0, 5);
        Check.due("68: which", x.first(0), -9);
        Check.due("68: when", x.first(1), -9);
    }

    private static void promise17_firstIn61IsTooLate() {
        // 120 to weep: WET 9, his 50 until he is dry, and 61 by the lady.
        GravediggerPaid x = Check.yard("g9;ml000;a00;d09;mm049;mm010;a10;");
        Check.due("61: which", x.first(0), -9);
        Check.due("61: when", x.first(1), -9);
        x.goes(2, 0);
        Check.due("one tear more: which", x.first(0), 0);
        Check.due("one tear more: when", x.first(1), 60);
    }

    private static void promise17_first12DeeperNotPaid() {
        GravediggerPaid x = Check.dug(11);
        Check.due("a foot is full in one day, 12 deeper in 12", x.first(1), 12);
        Check.due("13 deep", Check.dug(13).first(1), 12);
    }

    private static void promise17_firstAt999() {
        GravediggerPaid x = Check.dug(987);
        Check.due("12 are left", x.first(1), 12);
        Check.due("which", x.first(0), 0);
        x.days(1);
        Check.due("11 are left", x.first(1), -9);
        Check.due("none", x.first(0), -9);
        Check.due("999", Check.dug(999).first(0), -9);
    }

    private static void promise17_firstOfSeveralTheLeast() {
        GravediggerPaid x = Check.yard("g0;g0;g0;g0;ml000;mh400;mh500;mh400;a00;a33;");
        Check.due("nobody at 1", x.first(0), 3);
        x.goes(1, 1);
        Check.due("1 of two alike", x.first(0), 1);
        x.goes(2, 2);
        Check.due("1 of three alike", x.first(0), 1);
        Check.due("when", x.first(1), 4);
        // On the same day, though not as deep.
        x.turn(3, 2, 4);
        x.turn(1, 1, 9);
        x.turn(2, 1, 9);
        Check.due("two days ahead of three", x.first(0), 3);
        x.turn(1, 2, 9);
        Check.due("both in two days", x.first(0), 1);
        Check.due("two days", x.first(1), 2);
    }

    private static void promise17_firstAbove999InThought() {
        GravediggerPaid x = atTheLastDay();
        Check.due("when", x.first(1), 12);
        Check.due("which", x.first(0), 0);
        Check.due("dry", x.first(2), -9);
        x.leaves(0);
        x.goes(1, 0);
        Check.due("dry in 45", x.first(2), 45);
    }

    private static void promise17_dryIn0And60And61() {
        Check.due("nobody AT a grave", Check.yard("g0;mo900;").first(2), 0);
        Check.due("weeps 0", Check.yard("g0;mm009;a00;").first(2), 0);
        Check.due("one day", Check.yard("g0;mm010;a00;").first(2), 1);
        Check.due("a wit of 50", Check.yard("g0;mw050;a00;").first(2), 1);
        Check.due("family of 69", Check.yard("g0;mf269;a00;").first(2), 60);
        Check.due("family of 70", Check.yard("g0;mf270;a00;").first(2), -9);
        Check.due("family by figure", Check.yard("g0;mf300;a00;").first(2), -9);
        Check.due("a lady", Check.yard("g0;ml000;a00;").first(2), -9);
        Check.due("99", Check.yard("g0;mm099;a00;").first(2), 45);
        Check.due("the last of them", Check.yard("g0;g0;mm099;mw099;mm012;a00;a11;a21;").first(2), 45);
    }

    private static void promise17_driestAndDeepestOfSeveral() {
        Check.due("driest of one", Check.dug(999).first(3), 0);
        Check.due("deepest of one", Check.dug(0).first(4), 0);
        GravediggerPaid x = Check.yard("g0;g0;g0;g0;g0;ml000;ml000;ml000;a00;a12;a24;");
        Check.due("driest, all alike", x.first(3), 0);
        Check.due("deepest, all alike", x.first(4), 0);
        x.days(1);
        Check.due("driest of two", x.first(3), 1);
        Check.due("deepest of three", x.first(4), 0);
        x.goes(0, 1);
        x.goes(1, 3);
        x.days(1);
        Check.due("deepest, the last", x.first(4), 4);
        Check.due("driest of four", x.first(3), 0);
        x.goes(0, 0);
        x.goes(1, 1);
        x.goes(2, 2);
        x.days(1);
        Check.due("driest, the fourth", x.first(3), 3);
    }
}
