/** Promises 37 to 39: churchyards by lot, the image, on from it. */
public final class LotsTest {
    public static void main(String[] args) {
        lots();
        lotsByTheFace();
        image();
        Check.finish();
    }

    private static void lots() {
        GravediggerPaid x = Check.yard("mm050;");
        Check.due("below first", x.lots(0, 0, 2), -4);
        Check.due("above", x.lots(21, 0, 2), -6);
        Check.due("other", x.lots(20, 0, 2), -2);
        Check.due("other below", x.lots(20, 0, -1), -2);
        Check.due("no graves", x.lots(1, 0, 0), -3);
        Check.come(x, "g0;");
        x.leaves(0);
        Check.due("graves without mourners", Check.yard("g0;g1;").lots(20, 9, 1), 0);
        GravediggerPaid deep = Check.yard("g0;g1;mh900;a00;d05;n0;h10;");
        deep.turn(0, 1, 0);
        // One inch a day at either grave: 10 more, and no other foot but by the first.
        Check.due("inches more alone", deep.lots(20, -1, 1), 200);
        Check.due("pay of what was deep, too", deep.lots(1, 5, 0), 2);
    }

    /** The draws are made here again, and each churchyard set up by the face. */
    private static void lotsByTheFace() {
        String text = "g2;g0;g7;mm050;mf300;mh200;mo100;mw000;a00;a12;d01;";
        int[] seeds = {0, 1, -1, 7, 123456789, Integer.MIN_VALUE, Integer.MAX_VALUE};
        for (int z : seeds) {
            GravediggerPaid x = Check.yard(text);
            int pay = 0;
            int inches = 0;
            int seed = z;
            for (int i = 0; i < 4; i++) {
                GravediggerPaid y = Check.yard(text);
                int before = y.count(4);
                for (int m = 0; m < 5; m++) {
                    seed = seed * 1664525 + 1013904223;
                    y.goes(m, ((seed & 0x7fffffff) >> 8) % 3);
                    seed = seed * 1664525 + 1013904223;
                    y.grieves(m, ((seed & 0x7fffffff) >> 8) % 100);
                }
                pay += y.days(10);
                inches += y.count(4) - before;
            }
            Check.due("pay by " + z, x.lots(4, z, 0), pay);
            Check.due("inches by " + z, x.lots(4, z, 1), inches);
        }
    }

    private static void image() {
        GravediggerPaid x = Check.yard("g2;mm050;a00;d04;");
        Check.due("none", x.on(), -3);
        Check.due("taken", x.image(), 4);
        x.row(5);
        Check.come(x, "g9;ml000;a11;n0;h00;t0;d20;");
        x.turn(0, 4, 4);
        x.letter('g');
        Check.due("day", x.count(2), 24);
        Check.due("on", x.on(), 4);
        Check.due("graves", x.count(0), 1);
        Check.due("mourners", x.count(1), 1);
        Check.due("day then", x.count(2), 4);
        Check.due("hard", x.grave(0, 0), 2);
        Check.due("deep", x.grave(0, 1), (5 + 4 + 4 + 4) / 3);
        Check.due("wet", x.grave(0, 2), (5 + 4 + 4 + 4) % 3);
        Check.due("kind", x.turn(0, 0, 0), 0);
        Check.due("grief", x.mourner(0, 2), 42);
        Check.due("at", x.mourner(0, 3), 0);
        Check.due("the row is not of it", x.count(6), 1);
        Check.due("letters are not of it", x.count(7), 1);
        Check.due("refusals are not of it", x.count(13), 1);
        x.days(60);
        Check.due("on again", x.on(), 4);
        x.days(3);
        Check.due("another", x.image(), 7);
        x.days(3);
        Check.due("on from that", x.on(), 7);
        x.yard();
        Check.due("a grave more is new", Check.tell(x, "g5;"), 1);
        Check.due("not deep", x.grave(1, 1), 0);
        Check.due("bare", x.alone(1), 2);
    }
}
