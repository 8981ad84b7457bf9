/** Promises 20 and 21: bribes, decades by draws. */
final class DecadesTest {
    private static final Due due = new Due("DecadesTest");
    private static long x;

    public static void main(String[] args) {
        bribes();
        byHand(0, 1L, 12);
        byHand(9, 1L, 60);
        byHand(5, -1L, 33);
        byHand(3, Long.MIN_VALUE, 20);
        byHand(7, 1234567890123456789L, 45);
        oneAct();
        refused();
        due.finish();
    }

    private static void bribes() {
        NinePortraits c = new NinePortraits();
        due.is("it is so", c.bribes(0), false);
        due.is("bribes(9)", c.bribes(9), true);
        due.is("count(8)", c.count(8), 9);
        due.is("it is so", c.bribes(9), false);
        due.is("bribes(10)", c.bribes(10), false);
        due.is("bribes(-1)", c.bribes(-1), false);
        due.is("count(8)", c.count(8), 9);
        due.is("bribes(0)", c.bribes(0), true);
    }

    private static int draw(int j) {
        x = x * 6364136223846793005L + 1442695040888963407L;
        return (int) Long.remainderUnsigned(x >>> 33, j);
    }

    /** The same months by acts by hand, on another object. */
    private static void byHand(int bribes, long seed, int n) {
        String text = "sp30;bf1y1;bf8y8;bf5y9;ps9f3a0;pf9k1;pf1a9k3;pf0k2";
        NinePortraits a = Due.court(text);
        NinePortraits b = Due.court(text);
        Due.law(a, "y:f+y-m/9");
        Due.law(b, "y:f+y-m/9");
        a.bribes(bribes);
        due.is("decades(" + n + ", " + seed + ")", a.decades(n, seed), n);
        x = seed;
        for (int i = 0; i < n; i++) {
            int painter = draw(4);
            int bride = draw(3);
            b.paint(painter, bride);
            if (draw(10) < bribes) {
                b.pay(draw(3), 1);
            }
            b.months(1);
        }
        for (int what = 5; what <= 7; what++) {
            due.is("count(" + what + ")", a.count(what), b.count(what));
        }
        due.is("purse", a.rule(0), b.rule(0));
        for (int bride = 0; bride < 3; bride++) {
            due.is("pays " + bride, a.bride(bride, 3), b.bride(bride, 3));
        }
        for (int i = 0; i < 20; i++) {
            for (int what = 0; what < 4; what++) {
                due.is("portrait " + i + " " + what, a.portrait(i, what), b.portrait(i, what));
            }
        }
        for (int what = 0; what < 5; what++) {
            due.is("no STATUS", a.status(what), 0);
        }
        due.is("acts", a.count(9), Math.min(40, n));
    }

    private static void oneAct() {
        NinePortraits c = Due.court("sp0;by0;pf0");
        c.bribes(9);
        due.is("decades(2)", c.decades(2, 5L), 2);
        due.is("two acts", c.count(9), 2);
        due.is("undone", c.undo(), 1);
        due.is("one portrait", c.count(7), 1);
        due.is("undone", c.undo(), 0);
        due.is("all is as it was", c.count(7) + c.bride(0, 3) + c.rule(0) + c.count(5), 0);
        NinePortraits d = Due.court("sp0;b;pf2");
        d.decades(2, 9L);
        due.is("too little ahead of each month", d.count(7) * 10 + d.rule(0), 2);
        d.decades(1, 9L);
        due.is("enough then", d.count(7) * 10 + d.rule(0), 11);
    }

    private static void refused() {
        NinePortraits c = new NinePortraits();
        due.none("no court", c.decades(1, 0L));
        Due.feed(c, "b;p");
        c.text(0);
        due.none("0", c.decades(0, 0L));
        due.none("61", c.decades(61, 0L));
        due.none("far off", c.decades(Integer.MAX_VALUE, 0L));
        due.none("below", c.decades(-5, 0L));
        for (int i = 0; i < 16; i++) {
            c.months(60);
        }
        due.none("beyond 999", c.decades(40, 0L));
        due.is("none goes by", c.count(5), 960);
        due.is("no portrait", c.count(7), 0);
        due.is("the last", c.decades(39, 0L), 999);
        due.none("beyond 999", c.decades(1, 0L));
        for (int what = 0; what < 5; what++) {
            due.is("no STATUS", c.status(what), 0);
        }
    }
}
