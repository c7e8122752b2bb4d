/** The boundary cases of promises 1 to 3: a new object, letters, a churchyard in letters. */
public final class Bounds01To03Test {
    private static final String[] FORMS = {"g0;", "mm000;", "a00;", "n0;", "t0;", "h00;", "d01;"};

    public static void main(String[] args) throws ReflectiveOperationException {
        Promises.run(Bounds01To03Test.class);
    }

    private static int fault(String text) {
        return Check.tell(new GravediggerPaid(), text);
    }

    private static GravediggerPaid withLetters(String text) {
        GravediggerPaid x = new GravediggerPaid();
        for (char c : text.toCharArray()) {
            x.letter(c);
        }
        return x;
    }

    private static void promise01_noGravesNoMournersDay0() {
        GravediggerPaid x = new GravediggerPaid();
        Check.due("graves", x.count(0), 0);
        Check.due("mourners", x.count(1), 0);
        Check.due("day", x.count(2), 0);
        Check.due("grave 0", x.grave(0, 0), -1);
        Check.due("mourner 0", x.mourner(0, 0), -1);
    }

    private static void promise01_nothingElseEither() {
        GravediggerPaid x = new GravediggerPaid();
        for (int what = 3; what <= 7; what++) {
            Check.due("count " + what, x.count(what), 0);
        }
        for (int what = 11; what <= 16; what++) {
            Check.due("count " + what, x.count(what), 0);
        }
        Check.due("no image", x.on(), -3);
    }

    private static void promise01_objectsAreApart() {
        GravediggerPaid x = Check.yard("g0;mm050;a00;d01;");
        x.row(1);
        x.image();
        x.goes(9, 9);
        GravediggerPaid y = new GravediggerPaid();
        Check.due("graves", y.count(0), 0);
        Check.due("row", y.count(6), 0);
        Check.due("refusals", y.count(11), 0);
        Check.due("no image", y.on(), -3);
    }

    private static void promise02_letters0And255() {
        GravediggerPaid x = new GravediggerPaid();
        Check.due("0", x.letter(0), 1);
        Check.due("255", x.letter(255), 2);
        Check.due("127", x.letter(127), 3);
        Check.due("128", x.letter(128), 4);
        Check.due("letters", x.count(7), 4);
    }

    private static void promise02_below0() {
        Refused.due("", "-1", x -> x.letter(-1), Refused.BELOW);
        Refused.due("", "least", x -> x.letter(Refused.LEAST), Refused.BELOW);
    }

    private static void promise02_above255() {
        Refused.due("", "256", x -> x.letter(256), Refused.ROOM);
        Refused.due("", "greatest", x -> x.letter(Refused.GREATEST), Refused.ROOM);
    }

    private static void promise02_the96thAndOneMore() {
        GravediggerPaid x = withLetters("n0;".repeat(31) + "n0");
        Check.due("95", x.count(7), 95);
        Check.due("the 96th", x.letter(';'), 96);
        Refused.by(x, "the 97th", y -> y.letter(';'), Refused.ROOM);
    }

    private static void promise02_fullIsToldBehindBelow() {
        Refused.by(withLetters("n0;".repeat(32)), "-1", y -> y.letter(-1), Refused.BELOW);
        Refused.by(withLetters("n0;".repeat(32)), "256", y -> y.letter(256), Refused.ROOM);
    }

    private static void promise02_aRefusedLetterIsNone() {
        GravediggerPaid x = new GravediggerPaid();
        x.letter('g');
        x.letter(-1);
        x.letter('7');
        x.letter('7' + 256);
        x.letter(';');
        Check.due("yard", x.yard(), 1);
        Check.due("hard", x.grave(0, 0), 7);
    }

    private static void promise02_roomAgainBehindYard() {
        GravediggerPaid x = withLetters("n0;".repeat(32));
        x.yard();
        Check.due("the first again", x.letter('g'), 1);
    }

    private static void promise03_aTextWithoutLetters() {
        GravediggerPaid x = new GravediggerPaid();
        Check.due("at least one statement", x.yard(), -1000);
        Check.due("with a churchyard, too", Check.yard("g0;").yard(), -1000);
    }

    private static void promise03_aTextOf96Letters() {
        GravediggerPaid x = Check.yard("mm000;");
        Check.due("32 statements", Check.tell(x, "n0;".repeat(32)), 32);
        Check.due("26 statements", fault("mm000;".repeat(6) + "t5;".repeat(20)), 26);
        Check.due("24 statements", Check.tell(x, "g0;mm000;a10;" + "d01;".repeat(20) + "n1;"), 24);
    }

    private static void promise03_aFaultAtTheEndOf96Letters() {
        Check.due("the last letter", fault("g0;".repeat(31) + "g0g"), -1095);
        Check.due("something lacks", fault("g0;".repeat(31) + "mm0"), -1096);
        Check.due("only the sign behind lacks", fault("g0;".repeat(30) + "mm0000"), -1095);
    }

    private static void promise03_the97thLetterIsNoneOfIt() {
        GravediggerPaid x = withLetters("t0;".repeat(31) + "a00");
        Check.due("no room for ;", x.letter(';'), -6);
        Check.due("it lacks", x.yard(), -1096);
    }

    private static void promise03_whatLacksIsAtTheEnd() {
        for (String form : FORMS) {
            for (int length = 1; length < form.length(); length++) {
                String part = form.substring(0, length);
                Check.due(part, fault(part), -1000 - length);
                Check.due("g0;" + part, fault("g0;" + part), -1003 - length);
            }
        }
    }

    private static void promise03_theFirstLetterWithWhichNoneCanGoOn() {
        for (String form : FORMS) {
            for (int i = 1; i < form.length(); i++) {
                boolean digit = form.charAt(i) == '0' || form.charAt(i) == '1';
                String others = digit ? "/:;a\u0000\u00ff" : form.charAt(i) == ';' ? "0:<gm" : "MNkn0;g\u00ff";
                for (char c : others.toCharArray()) {
                    String text = form.substring(0, i) + c + form.substring(i + 1);
                    Check.due(text, fault(text), -1000 - i);
                    Check.due("d01;" + text, fault("d01;" + text), -1004 - i);
                }
            }
        }
        for (char c : "GMATHDNb0; \u0000\u00e7\u00ff".toCharArray()) {
            Check.due("" + c, fault(c + "0;"), -1000);
            Check.due("g0;" + c, fault("g0;" + c), -1003);
        }
    }

    private static void promise03_kind1GoesBeforeKind2() {
        Check.due("a statement ahead is not as it must be", fault("a00;x"), -1004);
        Check.due("and something lacks", fault("d00;d00"), -1007);
        Check.due("both", fault("a00;g0"), -1006);
    }

    private static void promise03_theFirstOfSeveralStatements() {
        Check.due("the second", fault("g0;n0;d00;a00;"), -2003);
        Check.due("the last", fault("g0;mm000;a00;t0;h00;n0;d01;d00;"), -2027);
    }

    private static void promise03_hardFigureAndGrief() {
        GravediggerPaid x = Check.yard("g0;g9;mm000;mm999;mm009;mm010;h00;");
        Check.due("hard 0", x.grave(0, 0), 0);
        Check.due("hard 9", x.grave(1, 0), 9);
        Check.due("figure 0", x.mourner(0, 1), 0);
        Check.due("figure 9", x.mourner(1, 1), 9);
        Check.due("grief 0", x.mourner(0, 2), 0);
        Check.due("grief 99", x.mourner(1, 2), 99);
        Check.due("grief 9", x.mourner(2, 2), 9);
        Check.due("grief 10", x.mourner(3, 2), 10);
        Check.come(x, "h09;h10;");
        Check.due("hardened to 9", x.grave(0, 0), 9);
        Check.due("to 0", x.grave(1, 0), 0);
    }

    private static void promise03_atFirst() {
        GravediggerPaid x = Check.yard("g9;mm999;");
        Check.due("deep", x.grave(0, 1), 0);
        Check.due("wet", x.grave(0, 2), 0);
        Check.due("nowhere", x.mourner(0, 3), -9);
        Check.due("day", x.count(2), 0);
    }

    private static void promise03_fiveGravesAndOneMore() {
        Check.due("five", fault("g0;g1;g2;g3;g4;"), 5);
        Check.due("one more", fault("g0;g1;g2;g3;g4;g5;"), -2015);
        GravediggerPaid x = Check.yard("g0;g1;g2;g3;");
        Check.due("the fifth", Check.tell(x, "g4;"), 1);
        Check.due("behind them", Check.tell(x, "g5;"), -2000);
        Check.due("graves", x.count(0), 5);
        Check.due("a mourner still", Check.tell(x, "mm000;a04;"), 2);
        Check.due("at the fifth", x.mourner(0, 3), 4);
    }

    private static void promise03_sixMournersAndOneMore() {
        Check.due("six", fault("mm000;mh100;mo200;mw300;mf400;ml500;"), 6);
        Check.due("one more", fault("mm000;mh100;mo200;mw300;mf400;ml500;mm000;"), -2036);
        GravediggerPaid x = Check.yard("mm000;mm000;mm000;mm000;mm000;");
        Check.due("the sixth", Check.tell(x, "ml999;"), 1);
        Check.due("behind them", Check.tell(x, "mm000;"), -2000);
        Check.due("mourners", x.count(1), 6);
        Check.due("a grave still", Check.tell(x, "g0;a50;t5;n5;"), 4);
        Check.due("the sixth is told", x.mourner(5, 2), 99);
    }

    private static void promise03_noSuchGrave() {
        Check.due("none at all", fault("mm000;a00;"), -2006);
        Check.due("one more", fault("mm000;g0;a01;"), -2009);
        Check.due("9", fault("mm000;g0;a09;"), -2009);
        Check.due("h of none", fault("h00;"), -2000);
        Check.due("h of one more", fault("g0;h10;"), -2003);
        Check.due("h of the sixth", fault("g0;g0;g0;g0;g0;h50;"), -2015);
        Check.due("h of the fifth", fault("g0;g0;g0;g0;g0;h40;"), 6);
    }

    private static void promise03_noSuchMourner() {
        for (String s : new String[] {"a00;", "n0;", "t0;"}) {
            String later = s.charAt(0) + "1" + s.substring(2);
            String seventh = s.charAt(0) + "6" + s.substring(2);
            Check.due("none at all: " + s, fault("g0;" + s), -2003);
            Check.due("one more: " + later, fault("g0;mm000;" + later), -2009);
            Check.due("there is: " + s, fault("g0;mm000;" + s), 3);
            GravediggerPaid six = Check.yard("g0;mm000;mm000;mm000;mm000;mm000;mm000;");
            Check.due("the seventh: " + seventh, Check.tell(six, seventh), -2000);
        }
    }

    private static void promise03_noneSoFar() {
        Check.due("a grave behind", fault("mm000;a00;g0;"), -2006);
        Check.due("a mourner behind", fault("g0;a00;mm000;"), -2003);
        Check.due("told ahead", fault("t0;mm000;"), -2000);
        Check.due("nowhere ahead", fault("n0;mm000;"), -2000);
        Check.due("harder ahead", fault("h00;g0;"), -2000);
    }

    private static void promise03_days0And1And60And61() {
        Check.due("0", fault("d00;"), -2000);
        Check.due("1", fault("d01;"), 1);
        Check.due("60", fault("d60;"), 1);
        Check.due("61", fault("d61;"), -2000);
        Check.due("99", fault("d99;"), -2000);
        GravediggerPaid x = Check.yard("d01;d60;");
        Check.due("day", x.count(2), 61);
    }

    private static void promise03_day999AndAbove() {
        Check.due("999", fault("d60;".repeat(16) + "d39;"), 17);
        Check.due("1000", fault("d60;".repeat(16) + "d40;"), -2064);
        GravediggerPaid x = Check.yard("d60;".repeat(16) + "d38;");
        Check.due("two more", Check.tell(x, "d02;"), -2000);
        Check.due("still", x.count(2), 998);
        Check.due("one and one more", Check.tell(x, "d01;d01;"), -2004);
        Check.due("none of it", x.count(2), 998);
        Check.due("one", Check.tell(x, "d01;"), 1);
        Check.due("day", x.count(2), 999);
        Check.due("no more", Check.tell(x, "d01;"), -2000);
    }

    private static void promise03_nowhereAndAtAgain() {
        GravediggerPaid x = Check.yard("g0;mm000;");
        Check.due("one who is nowhere", Check.tell(x, "n0;n0;"), 2);
        Check.due("there already", Check.tell(x, "a00;a00;"), 2);
        Check.due("at", x.mourner(0, 3), 0);
    }

    private static void promise03_griefToldInLetters() {
        GravediggerPaid x = Check.yard("mm079;mm080;mm099;mf069;mf070;mo094;t0;t1;t2;t3;t4;t5;");
        for (int m = 0; m < 6; m++) {
            Check.due("99 at most, " + m, x.mourner(m, 2), 99);
        }
    }

    private static void promise03_withOneFaultNothing() {
        String[] faults = {"g0;mf999;a11;t0;h09;n0;d60;a99;", "g0;mf999;a11;t0;h09;n0;d60;a", ""};
        for (String text : faults) {
            GravediggerPaid x = Check.yard("g3;mm150;a00;d02;");
            x.row(5);
            String before = Refused.state(x);
            Check.holds("a fault", Check.tell(x, text) <= -1000);
            Check.holds("nothing of " + text, Refused.state(x).equals(before));
        }
    }

    private static void promise03_aFaultIsNoRefusal() {
        for (String text : new String[] {"", "x", "g", "a00;", "d61;"}) {
            GravediggerPaid x = new GravediggerPaid();
            Check.tell(x, text);
            for (int what = 11; what <= 16; what++) {
                Check.due("count " + what + " behind " + text, x.count(what), 0);
            }
        }
    }

    private static void promise03_theLettersAreNoMore() {
        for (String text : new String[] {"g0;", "x", "g", "a00;"}) {
            GravediggerPaid x = withLetters(text);
            x.yard();
            Check.due("letters behind " + text, x.count(7), 0);
            Check.due("yard again behind " + text, x.yard(), -1000);
        }
    }
}
