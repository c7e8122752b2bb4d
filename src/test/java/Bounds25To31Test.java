/** The boundary cases of promises 25 to 31: tears, graves alone, level, two, share, winter, mean. */
public final class Bounds25To31Test {
    private static final String ONE = "g3;mm550;a00;";
    private static final String TWO = "g0;g0;mm000;mm000;a00;a11;";
    private static final String SIX = "ml000;ml000;ml000;ml000;ml000;ml000;";
    private static final long TOLD = 4000000000000000000L;

    public static void main(String[] args) throws ReflectiveOperationException {
        Promises.run(Bounds25To31Test.class);
    }

    private static void promise25_nobodyAtAGrave() {
        Check.due("without any", new GravediggerPaid().tears(), -9);
        Check.due("without mourners", Check.yard("g0;").tears(), -9);
        Check.due("without graves", Check.yard("mo900;").tears(), -9);
        Check.due("nowhere", Check.yard("g0;mo900;").tears(), -9);
        Check.due("no more", Check.yard("g0;mo900;a00;n0;").tears(), -9);
    }

    private static void promise25_ofSeveralTheLeast() {
        GravediggerPaid x = Check.yard("g0;g0;" + SIX + "a51;");
        Check.due("the sixth", x.tears(), 5);
        x.goes(3, 0);
        Check.due("the least of two", x.tears(), 3);
        x.turn(0, 2, 9);
        Check.due("most, but nowhere", x.tears(), 3);
        x.turn(5, 1, 2);
        Check.due("more", x.tears(), 5);
        x.goes(0, 1);
        Check.due("most of all", x.tears(), 0);
    }

    private static void promise25_whoWeeps0() {
        GravediggerPaid x = Check.yard("g0;mm009;mw049;mm010;a10;");
        Check.due("alone", x.tears(), 1);
        x.goes(0, 0);
        Check.due("two", x.tears(), 0);
        x.goes(2, 0);
        Check.due("who weeps 1", x.tears(), 2);
    }

    private static void promise26_anotherWhat() {
        Refused.due(ONE, "-1", x -> x.alone(-1), Refused.OTHER);
        Refused.due(ONE, "3", x -> x.alone(3), Refused.OTHER);
        Refused.due("", "least", x -> x.alone(Refused.LEAST), Refused.OTHER);
        Refused.due("", "greatest", x -> x.alone(Refused.GREATEST), Refused.OTHER);
    }

    private static void promise26_withoutGravesOrMourners() {
        for (int what = 0; what <= 2; what++) {
            Check.due("without any, " + what, new GravediggerPaid().alone(what), 0);
            Check.due("mourners, " + what, Check.yard(SIX).alone(what), 0);
        }
        GravediggerPaid x = Check.yard("g0;g0;g0;g0;g0;");
        Check.due("alone", x.alone(0), 0);
        Check.due("bare", x.alone(1), 31);
        Check.due("deep", x.alone(2), 0);
    }

    private static void promise26_justOneAndNone() {
        GravediggerPaid x = Check.yard("g0;g0;g0;g0;g0;mm000;ml000;ml000;ml000;ml000;ml000;");
        Check.come(x, "a00;a11;a22;a33;a44;");
        Check.due("five alone, one weeps 0", x.alone(0), 31);
        Check.due("none bare", x.alone(1), 0);
        x.goes(5, 4);
        Check.due("two at the fifth", x.alone(0), 15);
        Check.due("still none bare", x.alone(1), 0);
        x.leaves(0);
        Check.due("none at the first", x.alone(0), 14);
        Check.due("bare", x.alone(1), 1);
    }

    private static void promise26_deepFrom12() {
        Check.due("11", Check.dug(11).alone(2), 0);
        Check.due("12", Check.dug(12).alone(2), 1);
        Check.due("999", Check.dug(999).alone(2), 1);
        Check.due("the fifth", Check.yard("g0;g0;g0;g0;g0;ml000;a04;d12;").alone(2), 16);
    }

    private static void promise27_withoutAndOneGrave() {
        Check.due("without", new GravediggerPaid().level(), 0);
        Check.due("mourners alone", Check.yard(SIX).level(), 0);
        Check.due("one", Check.dug(999).level(), 0);
    }

    private static void promise27_mostLessLeast() {
        GravediggerPaid x = Check.dug(999);
        Check.come(x, "g0;");
        Check.due("999 less 0", x.level(), 999);
        Check.come(x, "g0;a01;d03;");
        Check.due("the least is the third", x.level(), 999);
        Check.come(x, "a02;d05;");
        Check.due("the least is the second", x.level(), 996);
        Check.due("alike", Check.yard("g0;g0;ml000;ml000;a00;a11;d07;").level(), 0);
    }

    private static void promise28_nobody() {
        Refused.due("", "without any", x -> x.two(0, 1, 1), Refused.NOBODY);
        Refused.due(TWO, "one twice", x -> x.two(0, 0, 1), Refused.NOBODY);
        Refused.due(TWO, "the other twice", x -> x.two(1, 1, 1), Refused.NOBODY);
        Refused.due(TWO, "the first -1", x -> x.two(-1, 0, 1), Refused.NOBODY);
        Refused.due(TWO, "the other -1", x -> x.two(0, -1, 1), Refused.NOBODY);
        Refused.due(TWO, "the first one more", x -> x.two(2, 0, 1), Refused.NOBODY);
        Refused.due(TWO, "the other one more", x -> x.two(0, 2, 1), Refused.NOBODY);
        Refused.due(ONE, "one alone twice", x -> x.two(0, 0, 1), Refused.NOBODY);
        Refused.due(TWO, "nobody twice", x -> x.two(-1, -1, 1), Refused.NOBODY);
    }

    private static void promise28_n0And1And30And31() {
        Refused.due(TWO, "0", x -> x.two(0, 1, 0), Refused.BELOW);
        Refused.due(TWO, "least", x -> x.two(0, 1, Refused.LEAST), Refused.BELOW);
        Refused.due(TWO, "31", x -> x.two(0, 1, 31), Refused.ROOM);
        Refused.due(TWO, "greatest", x -> x.two(0, 1, Refused.GREATEST), Refused.ROOM);
        // Told, he is at 20: two inches today, and seven in all.
        GravediggerPaid x = Check.yard(TWO);
        Check.due("1", x.two(0, 1, 1), 0);
        Check.due("30", x.two(0, 1, 30), 11);
    }

    private static void promise28_oneIsNowhere() {
        Refused.due("g0;mm000;mm000;a00;", "the other", x -> x.two(0, 1, 1), Refused.STATE);
        Refused.due("g0;mm000;mm000;a10;", "the first", x -> x.two(0, 1, 30), Refused.STATE);
        Refused.due("mm000;mm000;", "both", x -> x.two(0, 1, 1), Refused.STATE);
    }

    private static void promise28_refusedInOrder() {
        String nowhere = "g0;mm000;mm000;";
        Refused.due(nowhere, "twice before below", x -> x.two(0, 0, 0), Refused.NOBODY);
        Refused.due(nowhere, "nobody before above", x -> x.two(0, 2, 31), Refused.NOBODY);
        Refused.due(nowhere, "below before state", x -> x.two(0, 1, 0), Refused.BELOW);
        Refused.due(nowhere, "above before state", x -> x.two(0, 1, 31), Refused.ROOM);
    }

    private static void promise28_justAsMuchIsNotMore() {
        // Two inches more for the two that it takes: untold is the first by which none has more.
        GravediggerPaid x = Check.yard(TWO);
        Check.due("two for two", x.two(0, 1, 1), 0);
        Check.due("three for two", x.two(0, 1, 2), 11);
        x.turn(0, 4, 0);
        Check.due("family: three for two", x.two(0, 1, 1), 10);
        Check.due("the other way", x.two(1, 0, 1), 1);
    }

    private static void promise28_whoGetsNothingIsUntold() {
        Check.due("hired", Check.yard("g0;g0;mh900;mh900;a00;a11;").two(0, 1, 30), 0);
        Check.due("grief 99", Check.yard("g0;g0;mm099;mf999;a00;a11;").two(0, 1, 30), 0);
        GravediggerPaid deep = Check.dug(999);
        Check.come(deep, "mm000;mm000;a10;a20;");
        Check.due("999", deep.two(1, 2, 30), 0);
        Check.due("and a lady", deep.two(0, 1, 30), 0);
    }

    private static void promise28_atOneGrave() {
        // Each has the inches of both: told alone, he makes two today, and one tomorrow.
        GravediggerPaid x = Check.yard("g0;mm000;mm000;a00;a10;");
        Check.due("two for two", x.two(0, 1, 1), 0);
        Check.due("more for two", x.two(0, 1, 2), 11);
        x.hardens(0, 2);
        Check.due("one inch by three tears is not more than two", x.two(0, 1, 2), 0);
        // Both told weep 14 in all: one inch of HARD 9.
        Check.due("none for two", Check.yard("g9;mm000;mm000;a00;a10;").two(0, 1, 30), 0);
    }

    private static void promise28_oneIsToldForBoth() {
        // Four inches are left: two less for one who makes them, and none for the other.
        GravediggerPaid x = Check.dug(995);
        Check.come(x, "mm000;mm000;n0;a10;a20;");
        Check.due("the other is told", x.two(1, 2, 30), 1);
        Check.due("the other still", x.two(2, 1, 30), 1);
        x.turn(2, 3, 0);
        Check.due("a wit can't", x.two(1, 2, 30), 10);
    }

    private static void promise28_aboveDay999InThought() {
        GravediggerPaid x = Check.yard("d60;".repeat(16) + "d39;");
        Check.come(x, TWO);
        Check.due("30", x.two(0, 1, 30), 11);
    }

    private static void promise29_nobodyOtherState() {
        Refused.told("", "without any", x -> x.share(0, 0), Refused.NOBODY);
        Refused.told(ONE, "nobody first", x -> x.share(1, 2), Refused.NOBODY);
        Refused.told(ONE, "-1", x -> x.share(-1, 0), Refused.NOBODY);
        Refused.told(ONE, "part 2", x -> x.share(0, 2), Refused.OTHER);
        Refused.told(ONE, "part -1", x -> x.share(0, -1), Refused.OTHER);
        Refused.told("g0;mm000;", "part before nowhere", x -> x.share(0, 2), Refused.OTHER);
        Refused.told("g0;mm000;", "nowhere above", x -> x.share(0, 0), Refused.STATE);
        Refused.told("g0;mm000;", "nowhere below", x -> x.share(0, 1), Refused.STATE);
        Check.due("told so", new GravediggerPaid().share(0, 0), TOLD + 1);
        Check.due("other told so", Check.yard(ONE).share(0, 2), TOLD + 2);
        Check.due("state told so", Check.yard("mm000;").share(0, 1), TOLD + 3);
    }

    private static void share(GravediggerPaid x, int mourner, long above, long below) {
        Check.due("share of " + mourner + " above", x.share(mourner, 0), above);
        Check.due("share of " + mourner + " below", x.share(mourner, 1), below);
    }

    private static void promise29_nothingAndOfNone() {
        share(Check.yard("g0;mm009;a00;"), 0, 0, 1);
        GravediggerPaid x = Check.yard("g0;mm009;mm000;mo900;a00;a10;");
        share(x, 0, 0, 1);
        x.goes(2, 0);
        share(x, 1, 0, 1);
        share(x, 2, 1, 1);
    }

    private static void promise29_leastTerms() {
        GravediggerPaid x = Check.yard("g0;g0;mo900;mo900;mo900;mo900;mo900;mo900;");
        for (int m = 0; m < 6; m++) {
            x.goes(m, 0);
        }
        share(x, 5, 1, 6);
        x.goes(5, 1);
        share(x, 5, 1, 1);
        x.turn(0, 1, 8);
        share(x, 0, 1, 9);
        x.turn(1, 0, 0);
        x.grieves(1, 70);
        share(x, 1, 1, 6);
        share(x, 2, 5, 21);
    }

    private static void winter(GravediggerPaid x, int n, int t, int v, long above, long below) {
        String call = "winter " + n + " " + t + " " + v;
        Check.due(call + " above", x.winter(0, n, t, v, 0), above);
        Check.due(call + " below", x.winter(0, n, t, v, 1), below);
    }

    private static void promise30_n0And7And8() {
        GravediggerPaid x = Check.yard("g0;ml000;a00;");
        winter(x, 0, 2, 0, 1, 1);
        winter(x, 0, 2, 1, 0, 1);
        winter(x, 1, 2, 1, 1, 2);
        winter(x, 7, 2, 7, 1, 128);
        winter(x, 7, 2, 1, 127, 128);
        Refused.told(ONE, "8", y -> y.winter(0, 8, 2, 0, 0), Refused.ROOM);
        Refused.told(ONE, "greatest", y -> y.winter(0, Refused.GREATEST, 2, 0, 0), Refused.ROOM);
        Refused.told(ONE, "-1", y -> y.winter(0, -1, 2, 0, 0), Refused.BELOW);
        Refused.told(ONE, "least", y -> y.winter(0, Refused.LEAST, 2, 0, 0), Refused.BELOW);
    }

    private static void promise30_odds1In2And1In20() {
        GravediggerPaid x = Check.yard("g0;ml000;a00;");
        winter(x, 1, 20, 1, 19, 20);
        winter(x, 2, 20, 2, 361, 400);
        winter(x, 2, 20, 1, 399, 400);
        winter(x, 7, 20, 7, 893871739L, 1280000000L);
        winter(x, 7, 20, 1, 1279999999L, 1280000000L);
        winter(x, 7, 3, 7, 128, 2187);
        Refused.told(ONE, "1 in 1", y -> y.winter(0, 1, 1, 0, 0), Refused.BELOW);
        Refused.told(ONE, "1 in 0", y -> y.winter(0, 1, 0, 0, 0), Refused.BELOW);
        Refused.told(ONE, "least", y -> y.winter(0, 1, Refused.LEAST, 0, 0), Refused.BELOW);
        Refused.told(ONE, "1 in 21", y -> y.winter(0, 1, 21, 0, 0), Refused.ROOM);
        Refused.told(ONE, "greatest", y -> y.winter(0, 1, Refused.GREATEST, 0, 0), Refused.ROOM);
    }

    private static void promise30_v0And99And100() {
        GravediggerPaid x = Check.yard("g0;mo900;mo900;mo900;mh400;a00;a10;a20;a30;");
        winter(x, 3, 2, 0, 1, 1);
        winter(x, 3, 2, 99, 1, 8);
        winter(x, 4, 2, 99, 5, 16);
        winter(x, 2, 2, 99, 0, 1);
        x.turn(3, 1, 2);
        winter(x, 3, 2, 99, 0, 1);
        Refused.told(ONE, "100", y -> y.winter(0, 1, 2, 100, 0), Refused.ROOM);
        Refused.told(ONE, "greatest", y -> y.winter(0, 1, 2, Refused.GREATEST, 0), Refused.ROOM);
        Refused.told(ONE, "-1", y -> y.winter(0, 1, 2, -1, 0), Refused.BELOW);
        Refused.told(ONE, "least", y -> y.winter(0, 1, 2, Refused.LEAST, 0), Refused.BELOW);
    }

    private static void promise30_refusedInOrder() {
        Refused.told("", "without graves", x -> x.winter(0, 0, 2, 0, 0), Refused.NOBODY);
        Refused.told(ONE, "nobody first", x -> x.winter(1, -1, 1, -1, 2), Refused.NOBODY);
        Refused.told(ONE, "nobody below", x -> x.winter(-1, 8, 21, 100, 2), Refused.NOBODY);
        Refused.told(ONE, "n below before t, v above", x -> x.winter(0, -1, 21, 100, 2), Refused.BELOW);
        Refused.told(ONE, "v below before n, t above", x -> x.winter(0, 8, 21, -1, 2), Refused.BELOW);
        Refused.told(ONE, "t below before n, v above", x -> x.winter(0, 8, 1, 100, 2), Refused.BELOW);
        Refused.told(ONE, "n above before part", x -> x.winter(0, 8, 2, 0, 2), Refused.ROOM);
        Refused.told(ONE, "t above before part", x -> x.winter(0, 7, 21, 0, -1), Refused.ROOM);
        Refused.told(ONE, "v above before part", x -> x.winter(0, 7, 20, 100, 2), Refused.ROOM);
        Refused.told(ONE, "part 2", x -> x.winter(0, 7, 20, 99, 2), Refused.OTHER);
        Refused.told(ONE, "part -1", x -> x.winter(0, 0, 2, 0, -1), Refused.OTHER);
        Check.due("told so", new GravediggerPaid().winter(0, 0, 2, 0, 0), TOLD + 1);
        Check.due("below told so", Check.yard(ONE).winter(0, -1, 2, 0, 0), TOLD + 4);
        Check.due("above told so", Check.yard(ONE).winter(0, 8, 2, 0, 1), TOLD + 6);
    }

    private static void promise30_nothingToSoak() {
        winter(Check.yard("g0;"), 7, 2, 0, 1, 1);
        winter(Check.yard("g0;"), 7, 2, 1, 0, 1);
        winter(Check.yard("g0;mm009;a00;"), 7, 20, 1, 0, 1);
        winter(Check.yard("g0;mo900;"), 7, 20, 1, 0, 1);
    }

    private static void promise30_heldWet() {
        // WET 9 above the HARD of now is freed by whom weeps 0 there, but neither by rain nor nobody.
        GravediggerPaid x = Check.yard("g9;ml000;a00;d09;h00;");
        x.turn(0, 0, 0);
        winter(x, 1, 2, 9, 1, 2);
        winter(x, 2, 3, 9, 8, 9);
        winter(x, 7, 2, 10, 0, 1);
        winter(x, 0, 2, 1, 0, 1);
        x.leaves(0);
        winter(x, 7, 2, 1, 0, 1);
    }

    private static void promise30_griefIsLessInRain() {
        // He weeps on the first day alone; rain then is all there is to it.
        winter(Check.yard("g0;mm010;a00;"), 7, 20, 1, 19, 20);
        winter(Check.yard("g0;mw050;a00;"), 7, 3, 5, 2, 3);
        winter(Check.yard("g0;mm012;a00;"), 7, 3, 2, 4, 9);
    }

    private static void promise30_at999() {
        winter(Check.dug(998), 7, 2, 1, 127, 128);
        winter(Check.dug(998), 7, 2, 2, 0, 1);
        winter(Check.dug(999), 7, 2, 1, 0, 1);
        winter(Check.dug(999), 7, 2, 0, 1, 1);
    }

    private static void promise30_deeperNotDeep() {
        winter(Check.dug(99), 1, 2, 1, 1, 2);
        winter(Check.dug(99), 1, 2, 2, 0, 1);
        // WET 2 of HARD 2: the first dry day makes an inch, then each third.
        GravediggerPaid x = Check.yard("g2;ml000;a00;d02;");
        winter(x, 1, 2, 1, 1, 2);
        winter(x, 4, 2, 2, 1, 16);
        winter(x, 3, 2, 2, 0, 1);
    }

    private static void promise30_aboveDay999InThought() {
        GravediggerPaid x = Check.yard("d60;".repeat(16) + "d39;");
        Check.come(x, "g0;ml000;a00;");
        winter(x, 7, 2, 7, 1, 128);
    }

    private static void promise31_other() {
        Refused.told("", "2", x -> x.mean(2), Refused.OTHER);
        Refused.told(ONE, "-1", x -> x.mean(-1), Refused.OTHER);
        Refused.told(ONE, "least", x -> x.mean(Refused.LEAST), Refused.OTHER);
        Refused.told(ONE, "greatest", x -> x.mean(Refused.GREATEST), Refused.OTHER);
        Check.due("told so", new GravediggerPaid().mean(2), TOLD + 2);
    }

    private static void mean(GravediggerPaid x, long above, long below) {
        Check.due("mean above", x.mean(0), above);
        Check.due("mean below", x.mean(1), below);
    }

    private static void promise31_ofNoneAndOfNothing() {
        mean(new GravediggerPaid(), 0, 1);
        mean(Check.yard("g0;g0;g0;g0;g0;"), 0, 1);
        mean(Check.dug(999), 999, 1);
    }

    private static void promise31_leastTerms() {
        GravediggerPaid x = Check.dug(999);
        Check.come(x, "g0;");
        mean(x, 999, 2);
        Check.come(x, "g0;");
        mean(x, 333, 1);
        Check.come(x, "g0;g0;");
        mean(x, 999, 5);
        x.goes(0, 4);
        x.days(1);
        mean(x, 200, 1);
    }
}
