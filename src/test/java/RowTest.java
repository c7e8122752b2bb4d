/** Promises 32 to 36: who wept, what one is, the row, judged griefs, the row cleared. */
public final class RowTest {
    public static void main(String[] args) {
        row();
        judge();
        whoWept();
        whatIs();
        Check.finish();
    }

    private static void row() {
        GravediggerPaid x = new GravediggerPaid();
        Check.due("clear of none", x.clear(), 0);
        Check.due("below", x.row(-1), -4);
        Check.due("above", x.row(100), -6);
        Check.due("0", x.row(0), 1);
        Check.due("99", x.row(99), 2);
        Check.due("count", x.count(6), 2);
        Check.due("clear", x.clear(), 2);
        Check.due("cleared", x.count(6), 0);
        for (int i = 1; i <= 16; i++) {
            Check.due("row " + i, x.row(i), i);
        }
        Check.due("17th", x.row(1), -6);
        Check.due("17th below", x.row(-1), -4);
        Check.due("clear 16", x.clear(), 16);
        Check.due("again", x.row(1), 1);
    }

    private static void judge() {
        GravediggerPaid x = Check.yard("mm011;mh022;");
        Check.due("empty", x.judge(), -9);
        Check.row(x, 11);
        Check.due("so", x.judge(), -9);
        Check.due("no row then", x.count(6), 0);
        Check.row(x, 11, 22);
        Check.due("all so", x.judge(), -9);
        Check.row(x, 11, 23, 5);
        Check.due("the first not so", x.judge(), 1);
        Check.due("no row then either", x.count(6), 0);
        Check.row(x, 11, 22, 0);
        Check.due("nobody there", x.judge(), 2);
        Check.row(x, 1);
        Check.due("the very first", x.judge(), 0);
    }

    private static void whoWept() {
        GravediggerPaid x = Check.yard("g0;g0;mh200;mm020;mh000;mo000;a01;a10;a21;");
        Check.due("no row, all", x.whoWept(0), 15);
        Check.row(x, 0);
        Check.due("now, all", x.whoWept(0), 15);
        Check.row(x, 0, 2);
        Check.due("two inches", x.whoWept(0), 1 + 2 + 8);
        Check.row(x, 0, 2, 4);
        Check.due("the hired and the onion", x.whoWept(0), 1 + 8);
        Check.row(x, 0, 2, 3);
        Check.due("the mourner", x.whoWept(0), 2);
        Check.row(x, 0, 1, 2, 3);
        Check.due("the cheap", x.whoWept(0), 4);
        Check.row(x, 1);
        Check.due("not now", x.whoWept(0), 0);
        Check.due("the row stays", x.count(6), 1);
        x.days(1);
        Check.row(x, 3, 5);
        Check.due("behind a day", x.whoWept(1), 1 + 8);
        Check.due("nobody", x.whoWept(2), -1);
        Check.due("nobody below", x.whoWept(-1), -1);
    }

    private static void whatIs() {
        GravediggerPaid x = Check.yard("g0;g0;mm650;ml000;mh000;a00;a10;");
        Check.due("no row, all kinds", x.whatIs(0, 0), 63);
        Check.due("no row, all figures", x.whatIs(0, 1), 1023);
        Check.row(x, 0, 6);
        Check.due("5 and the lady's: mourner, wit", x.whatIs(0, 0), 1 + 8);
        Check.due("whatever figure", x.whatIs(0, 1), 1023);
        Check.row(x, 0, 6, 11);
        Check.due("a mourner goes on", x.whatIs(0, 0), 1);
        Check.row(x, 0, 6, 7);
        Check.due("a wit doesn't", x.whatIs(0, 0), 8);
        Check.row(x, 0, 8, 15);
        Check.due("family weeps 7, then 6", x.whatIs(0, 0), 16);
        Check.due("no figure of a mourner", x.whatIs(0, 1), 0);
        Check.row(x, 0, 5, 10);
        Check.due("hired", x.whatIs(0, 0), 2);
        x.turn(0, 1, 0);
        Check.due("figures of the hired", x.whatIs(0, 1), 64 + 128);
        Check.row(x, 1);
        Check.due("not now", x.whatIs(0, 1), 0);
        Check.due("nowhere", x.whatIs(2, 0), 0);
        Check.due("nowhere, figures", x.whatIs(2, 1), 0);
        Check.due("other before", x.whatIs(2, 2), -2);
        Check.due("other below", x.whatIs(0, -1), -2);
        Check.due("nobody first", x.whatIs(3, 2), -1);
        Check.due("the row stays", x.count(6), 1);
    }
}
