/** Terms, ==== 4: DECADES by draws, BRIBES, IMAGES: each edge. */
final class TermsFourTest {
    private static final Due due = new Due("TermsFourTest");
    private static final long TIMES = 6364136223846793005L;
    private static final long AND = 1442695040888963407L;

    public static void main(String[] args) {
        howManyMonths();
        lastMonth();
        drawsOfOneMonth();
        drawsGoRound();
        seedsOfEveryEdge();
        purseIsEnough();
        fewerThanTwenty();
        bribesOfNoughtAndNine();
        drawJustBelowBribes();
        houseAtNine();
        shownAsItIsThen();
        noStatus();
        eachMonthIsOneAct();
        purseAtItsMost();
        imageKeepsEach();
        imageKeepsPortraits();
        imageInsteadOfTheOneAhead();
        backForgetsActs();
        imageOfAnotherCourt();
        imageOfNoPortraits();
        due.finish();
    }

    private static NinePortraits inMonth(int month) {
        NinePortraits x = Due.court("b;p");
        for (int left = month; left > 0; left -= 60) {
            x.months(Math.min(60, left));
        }
        return x;
    }

    private static void howManyMonths() {
        for (int n = 1; n <= 60; n++) {
            NinePortraits x = Due.court("b;p");
            due.is("decades(" + n + ")", x.decades(n, 7L), n);
            due.is("acts", x.count(9), Math.min(40, n));
        }
        NinePortraits x = Due.court("b;p");
        for (int n : new int[] {0, 61, -1, -60, Integer.MIN_VALUE, Integer.MAX_VALUE}) {
            due.none("decades(" + n + ")", x.decades(n, 7L));
        }
        due.is("none went by", x.count(5) * 10 + x.count(9), 0);
    }

    private static void lastMonth() {
        due.is("939 and 60", inMonth(939).decades(60, 1L), 999);
        due.none("940 and 60", inMonth(940).decades(60, 1L));
        due.is("998 and 1", inMonth(998).decades(1, 1L), 999);
        NinePortraits x = inMonth(999);
        due.none("999 and 1", x.decades(1, 1L));
        due.is("nothing is painted", x.count(7) * 1000 + x.count(5), 999);
    }

    private static long after(long seed, int draws) {
        long x = seed;
        for (int i = 0; i < draws; i++) {
            x = x * TIMES + AND;
        }
        return x;
    }

    private static int draw(long seed, int place, int j) {
        return (int) ((after(seed, place) >>> 33) % j);
    }

    /** A draw of how many PAINTERS there are, a draw of how many BRIDES, a draw of 10. */
    private static void drawsOfOneMonth() {
        // 1 becomes 7806831264735756412, shifted 908834774, modulo five 4; that becomes
        // 9396908728118811419 (a sign in 64 bits), shifted 1093944153, modulo six 3.
        NinePortraits x = Due.court("sp0;b;b;b;b;b;b;pf0;pf0;pf0;pf0;pf0");
        x.decades(1, 1L);
        due.is("painter", x.portrait(0, 1), 4);
        due.is("bride", x.portrait(0, 0), 3);
        due.is("its month is the one ahead", x.portrait(0, 3), 0);
    }

    private static void drawsGoRound() {
        NinePortraits x = Due.court("sp0;b;b;b;b;b;pf0;pf0;pf0");
        x.bribes(9);
        x.decades(20, 123456789L);
        int place = 0;
        for (int month = 0; month < 20; month++) {
            due.is("painter of " + month, x.portrait(19 - month, 1), draw(123456789L, place + 1, 3));
            due.is("bride of " + month, x.portrait(19 - month, 0), draw(123456789L, place + 2, 5));
            boolean bribed = draw(123456789L, place + 3, 10) < 9;
            place += bribed ? 4 : 3;
        }
    }

    /** 64 bits, going round; shifted without sign: a sign would make a draw below 0. */
    private static void seedsOfEveryEdge() {
        long[] seeds = {0L, 1L, -1L, 2L, Long.MAX_VALUE, Long.MIN_VALUE, Long.MIN_VALUE + 1, -AND, TIMES, 1L << 33,
            0xffffffffL, -0x100000000L};
        for (long seed : seeds) {
            NinePortraits x = Due.court("sp0;b;b;b;b;b;b;pf0;pf0;pf0;pf0;pf0");
            due.is("decades(5, " + seed + ")", x.decades(5, seed), 5);
            for (int month = 0; month < 5; month++) {
                due.is("painter by " + seed, x.portrait(4 - month, 1), draw(seed, 3 * month + 1, 5));
                due.is("bride by " + seed, x.portrait(4 - month, 0), draw(seed, 3 * month + 2, 6));
            }
        }
    }

    private static void purseIsEnough() {
        NinePortraits x = Due.court("sp3;b;pf4");
        x.decades(1, 0L);
        due.is("one too little", x.count(7) * 100 + x.rule(0), 4);
        x.decades(1, 0L);
        due.is("just enough", x.count(7) * 100 + x.rule(0), 101);
        NinePortraits y = Due.court("sp0;b;pf0");
        y.decades(1, 0L);
        due.is("nothing for nothing", y.count(7) * 100 + y.rule(0), 101);
        NinePortraits z = Due.court("sp30;b;pf30");
        z.decades(2, 0L);
        due.is("once", z.count(7) * 100 + z.rule(0), 102);
    }

    private static void fewerThanTwenty() {
        NinePortraits x = Due.court("sp0;b;pf0");
        x.decades(19, 3L);
        due.is("nineteen", x.count(7), 19);
        x.decades(1, 3L);
        due.is("twenty", x.count(7), 20);
        due.is("no more", x.decades(5, 3L) * 100 + x.count(7), 2520);
        due.is("months went by", x.rule(0), 25);
        due.is("the latest is of the month", x.portrait(0, 3), 19);
        NinePortraits y = Due.court("sp99;b;pf1");
        y.decades(60, 3L);
        due.is("fees of twenty alone", y.count(7) * 1000 + y.rule(0), 20139);
    }

    private static void bribesOfNoughtAndNine() {
        NinePortraits x = Due.court("by0;p");
        x.decades(60, 11L);
        due.is("0 at first", x.count(8) + x.bride(0, 3), 0);
        for (int v = 1; v <= 9; v++) {
            NinePortraits y = Due.court("by0;p");
            due.is("bribes(" + v + ")", y.bribes(v), true);
            y.decades(8, 11L);
            int paid = 0;
            int place = 0;
            for (int month = 0; month < 8; month++) {
                boolean bribed = draw(11L, place + 3, 10) < v;
                paid += bribed ? 1 : 0;
                place += bribed ? 4 : 3;
            }
            due.is("paid by " + v, y.bride(0, 3), paid);
        }
    }

    /** A draw of 10 below BRIBES: as much is not below. */
    private static void drawJustBelowBribes() {
        for (long seed = 0; seed < 40; seed++) {
            int drawn = draw(seed, 3, 10);
            NinePortraits x = Due.court("by0;by0;by0;p");
            x.bribes(drawn);
            x.decades(1, seed);
            due.is("as much as " + drawn, x.bride(0, 3) + x.bride(1, 3) + x.bride(2, 3), 0);
            if (drawn < 9) {
                NinePortraits y = Due.court("by0;by0;by0;p");
                y.bribes(drawn + 1);
                y.decades(1, seed);
                int bride = draw(seed, 4, 3);
                for (int each = 0; each < 3; each++) {
                    due.is("one more than " + drawn, y.bride(each, 3), each == bride ? 1 : 0);
                }
            }
        }
    }

    private static void houseAtNine() {
        NinePortraits x = Due.court("by8;p");
        x.bribes(9);
        x.decades(60, 4L);
        due.is("nine at most", x.bride(0, 3), 9);
        for (int i = 0; i < 40; i++) {
            x.undo();
        }
        due.is("undone", x.bride(0, 3) <= 9 && x.bride(0, 3) >= 8, true);
    }

    private static void shownAsItIsThen() {
        NinePortraits x = Due.court("sp0;bf0w0y0;pf0a0");
        x.bribes(9);
        x.decades(12, 0L);
        int place = 0;
        int pays = 0;
        for (int month = 0; month < 12; month++) {
            due.is("shown in " + month, x.portrait(11 - month, 2), pays);
            due.is("month of " + month, x.portrait(11 - month, 3), month);
            boolean bribed = draw(0L, place + 3, 10) < 9;
            pays = Math.min(9, pays + (bribed ? 1 : 0));
            place += bribed ? 4 : 3;
        }
    }

    private static void noStatus() {
        NinePortraits x = new NinePortraits();
        x.decades(1, 0L);
        Due.feed(x, "sp0;by9;pf30");
        x.text(0);
        x.bribes(9);
        x.decades(0, 0L);
        x.decades(61, 0L);
        for (int i = 0; i < 16; i++) {
            x.decades(60, i);
        }
        x.decades(60, 0L);
        x.decades(40, 0L);
        x.decades(39, 0L);
        due.is("the last", x.count(5), 999);
        x.decades(1, 0L);
        for (int what = 0; what < 5; what++) {
            due.is("status(" + what + ")", x.status(what), 0);
        }
    }

    private static void eachMonthIsOneAct() {
        NinePortraits x = Due.court("sp0;by0;by0;pf0");
        x.bribes(9);
        String[] states = new String[41];
        NinePortraits[] others = new NinePortraits[41];
        for (int n = 1; n <= 40; n++) {
            others[n] = Due.court("sp0;by0;by0;pf0");
            others[n].bribes(9);
            others[n].decades(n, 5L);
            states[n] = Due.all(others[n]);
        }
        x.decades(41, 5L);
        for (int n = 40; n >= 1; n--) {
            due.is("undone", x.undo(), n - 1);
            due.is("as after " + n, Due.all(x).equals(states[n]), true);
        }
        due.none("the first can't be", x.undo());
    }

    private static void purseAtItsMost() {
        NinePortraits x = Due.court("sp99;b;pf0");
        for (int i = 0; i < 15; i++) {
            x.months(60);
        }
        due.is("999 at most", x.decades(5, 1L) * 1000 + x.rule(0), 905999);
        due.is("a portrait each", x.count(7), 5);
    }

    /** What HOUSES PAY, FEARS, PORTRAITS, LETTERS, SHOES, who is WED, the PURSE, the MONTH. */
    private static void imageKeepsEach() {
        for (int act = 0; act < 8; act++) {
            NinePortraits x = Due.court("bf3w0y4;bf3;pa0;p");
            x.wed(0);
            x.paint(0, 0);
            due.is("image", x.image(), 0);
            String was = Due.all(x);
            change(x, act);
            due.is("changed by " + act, Due.all(x).equals(was), false);
            due.is("back", x.back(), 0);
            due.is("so again after " + act, Due.all(x).equals(was), true);
        }
        for (int act = 0; act < 8; act++) {
            NinePortraits x = Due.court("bf3w0y4;bf3;pa0;p");
            x.wed(0);
            x.paint(0, 0);
            change(x, act);
            String was = Due.all(x);
            int month = x.count(5);
            due.is("image", x.image(), month);
            x.undo();
            due.is("undone " + act, Due.all(x).equals(was), false);
            due.is("back", x.back(), month);
            due.is("so again with " + act, Due.all(x).equals(was), true);
        }
    }

    /** PORTRAITS are kept as they were, though others were painted in their places. */
    private static void imageKeepsPortraits() {
        NinePortraits x = Due.court("sp0;bf2;bf7;pf0;pf0");
        for (int i = 0; i < 20; i++) {
            x.paint(i % 2, i / 10);
        }
        x.image();
        String was = Due.all(x);
        for (int i = 0; i < 20; i++) {
            x.undo();
        }
        x.months(3);
        for (int i = 0; i < 20; i++) {
            x.paint(1 - i % 2, 1 - i / 10);
        }
        due.is("others", Due.all(x).equals(was), false);
        x.back();
        due.is("so again", Due.all(x).equals(was), true);
        x.undo();
        due.is("nothing is undone", Due.all(x).equals(was), true);
    }

    private static void change(NinePortraits x, int act) {
        switch (act) {
            case 0 -> x.pay(1, 3);
            case 1 -> x.threaten(1);
            case 2 -> x.paint(1, 1);
            case 3 -> x.letter(1);
            case 4 -> x.shoe(1);
            case 5 -> x.annul();
            case 6 -> x.months(1);
            default -> x.decades(1, 9L);
        }
    }

    private static void imageInsteadOfTheOneAhead() {
        NinePortraits x = Due.court("b;p");
        due.is("image", x.image(), 0);
        x.months(1);
        due.is("another", x.image(), 1);
        x.months(1);
        due.is("the later", x.back(), 1);
        due.is("it stays", x.back(), 1);
        x.months(1);
        due.is("image of two", x.image(), 2);
        due.is("back to two", x.back(), 2);
    }

    private static void backForgetsActs() {
        NinePortraits x = Due.court("b;p");
        x.months(50);
        x.image();
        due.is("an image leaves them", x.count(9), 40);
        due.is("back", x.back(), 50);
        due.is("none", x.count(9), 0);
        due.none("none", x.undo());
        x.months(1);
        due.is("one", x.count(9), 1);
        due.is("undone", x.undo(), 0);
        due.none("none", x.undo());
        due.is("month", x.count(5), 50);
    }

    private static void imageOfAnotherCourt() {
        NinePortraits x = Due.court("b;p");
        due.none("no image", x.back());
        x.months(2);
        x.image();
        Due.feed(x, "b;p;");
        due.none("a fault", x.text(0));
        due.is("of this court still", x.back(), 2);
        x.end(3);
        due.is("another, though alike", x.text(0), 1);
        due.none("no image of it", x.back());
        due.is("month", x.count(5), 0);
        due.is("image", x.image(), 0);
        due.is("back", x.back(), 0);
        Due.feed(x, "y:1");
        x.text(1);
        due.is("a law is no court", x.back(), 0);
    }

    private static void imageOfNoPortraits() {
        NinePortraits x = Due.court("sp0;b;pf0");
        x.image();
        for (int i = 0; i < 20; i++) {
            x.paint(0, 0);
        }
        x.back();
        due.is("none", x.count(7), 0);
        due.none("none", x.portrait(0, 0));
        for (int i = 0; i < 20; i++) {
            due.is("twenty places", x.paint(0, 0) >= 0, true);
        }
        x.image();
        x.back();
        due.is("twenty", x.count(7), 20);
        due.none("twenty", x.paint(0, 0));
    }
}
