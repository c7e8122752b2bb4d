/** Promises 1 to 3: a new object, letters, what a churchyard in letters tells, its faults. */
public final class LettersTest {
    public static void main(String[] args) {
        newObject();
        letters();
        statements();
        faultsOfLetters();
        faultsOfStatements();
        nothingComesWithFault();
        Check.finish();
    }

    private static void newObject() {
        GravediggerPaid x = new GravediggerPaid();
        for (int what = 0; what <= 16; what++) {
            Check.due("new count " + what, x.count(what), what >= 8 && what <= 10 ? -9 : 0);
        }
        Check.due("new first 3", x.first(3), -9);
        Check.due("new on", x.on(), -3);
    }

    private static void letters() {
        GravediggerPaid x = new GravediggerPaid();
        Check.due("letter -1", x.letter(-1), -4);
        Check.due("letter least", x.letter(Integer.MIN_VALUE), -4);
        Check.due("letter 256", x.letter(256), -6);
        Check.due("letter greatest", x.letter(Integer.MAX_VALUE), -6);
        Check.due("letter 0", x.letter(0), 1);
        Check.due("letter 255", x.letter(255), 2);
        for (int i = 3; i <= 96; i++) {
            Check.due("letter " + i, x.letter('g'), i);
        }
        Check.due("letter 97th", x.letter('g'), -6);
        Check.due("letter 97th below", x.letter(-1), -4);
        Check.due("letters", x.count(7), 96);
        Check.due("refusals -4", x.count(14), 3);
        Check.due("refusals -6", x.count(16), 3);
        Check.due("yard", x.yard(), -1000);
        Check.due("letters behind", x.count(7), 0);
        Check.due("letter again", x.letter('g'), 1);
    }

    private static void statements() {
        GravediggerPaid x = new GravediggerPaid();
        Check.due("all kinds", Check.tell(x, "mm000;mh199;mo250;mw355;mf405;ml999;"), 6);
        int[] figures = {0, 1, 2, 3, 4, 9};
        int[] griefs = {0, 99, 50, 55, 5, 99};
        for (int m = 0; m < 6; m++) {
            Check.due("kind " + m, x.mourner(m, 0), m);
            Check.due("figure " + m, x.mourner(m, 1), figures[m]);
            Check.due("grief " + m, x.mourner(m, 2), griefs[m]);
            Check.due("place " + m, x.mourner(m, 3), -9);
        }
        Check.due("graves", Check.tell(x, "g0;g9;g5;g1;g2;"), 5);
        Check.due("hard 1", x.grave(1, 0), 9);
        Check.due("hard 4", x.grave(4, 0), 2);
        Check.due("goes, told, harder", Check.tell(x, "a04;a51;t0;t2;h47;"), 5);
        Check.due("at 4", x.mourner(0, 3), 4);
        Check.due("at 1", x.mourner(5, 3), 1);
        Check.due("told 0", x.mourner(0, 2), 20);
        Check.due("told 2", x.mourner(2, 2), 55);
        Check.due("harder", x.grave(4, 0), 7);
        Check.due("nowhere, nowhere again", Check.tell(x, "n0;n0;"), 2);
        Check.due("at none", x.mourner(0, 3), -9);
        Check.due("days", Check.tell(x, "d01;d60;"), 2);
        Check.due("day", x.count(2), 61);
        Check.due("inches by the lady", x.grave(1, 1), 6);
        Check.due("no refusal", x.count(11) + x.count(16), 0);
        Check.due("32 statements", Check.tell(x, "n0;".repeat(32)), 32);
    }

    private static void faultsOfLetters() {
        fault("", -1000);
        fault("G0;", -1000);
        fault(";", -1000);
        fault("0", -1000);
        fault("g", -1001);
        fault("g0", -1002);
        fault("ga;", -1001);
        fault("g/;", -1001);
        fault("g:;", -1001);
        fault("g00;", -1002);
        fault("g0;;", -1003);
        fault("g0; g0;", -1003);
        fault("mp000;", -1001);
        fault("mM000;", -1001);
        fault("mm", -1002);
        fault("mma00;", -1002);
        fault("mm0a0;", -1003);
        fault("mm00a;", -1004);
        fault("mm0000;", -1005);
        fault("mm000", -1005);
        fault("a0;", -1002);
        fault("a000;", -1003);
        fault("n;", -1001);
        fault("n00;", -1002);
        fault("tx;", -1001);
        fault("h0;", -1002);
        fault("hx0;", -1001);
        fault("d1;", -1002);
        fault("d100;", -1003);
        fault("d-1;", -1001);
        // The letters go before the statements, wherever they stand.
        fault("a00;d00;g0;x", -1011);
        fault("g0;".repeat(31) + "g0x", -1095);
        fault("g0;".repeat(31) + "mm0", -1096);
    }

    private static void faultsOfStatements() {
        fault("a00;", -2000);
        fault("g0;a00;", -2003);
        fault("mm000;a00;", -2006);
        fault("g0;mm000;a01;", -2009);
        fault("g0;mm000;a10;", -2009);
        fault("g0;mm000;a00;", 3);
        fault("n0;mm000;", -2000);
        fault("mm000;n1;", -2006);
        fault("t0;", -2000);
        fault("mm000;t1;", -2006);
        fault("h00;", -2000);
        fault("g0;h10;", -2003);
        fault("g0;h09;", 2);
        fault("d00;", -2000);
        fault("d61;", -2000);
        fault("d60;", 1);
        fault("d01;", 1);
        fault("d60;".repeat(16) + "d39;", 17);
        fault("d60;".repeat(16) + "d40;", -2064);
        fault("g0;".repeat(5), 5);
        fault("g0;".repeat(6), -2015);
        fault("mm000;".repeat(6), 6);
        fault("mm000;".repeat(7), -2036);
        fault("g0;d99;g0;a99;", -2003);
    }

    private static void nothingComesWithFault() {
        GravediggerPaid x = Check.yard("g3;mm150;a00;d02;");
        Check.due("half told", Check.tell(x, "g4;mf999;a11;t0;h09;n0;d10;a99;"), -2027);
        Check.due("graves", x.count(0), 1);
        Check.due("mourners", x.count(1), 1);
        Check.due("day", x.count(2), 2);
        Check.due("hard", x.grave(0, 0), 3);
        Check.due("grief", x.mourner(0, 2), 46);
        Check.due("at", x.mourner(0, 3), 0);
        Check.due("letters", x.count(7), 0);
        for (int what = 11; what <= 16; what++) {
            Check.due("fault not counted " + what, x.count(what), 0);
        }
        Check.due("told later", Check.tell(x, "g9;a01;"), 2);
        Check.due("went", x.mourner(0, 3), 1);
    }

    private static void fault(String text, int want) {
        Check.due("\"" + text + "\"", Check.tell(new GravediggerPaid(), text), want);
    }
}
