import java.util.function.Consumer;

/** Terms, ==== 2: what is cut and held of FLATTERY, LOOKS and SHOWN; the edges of each ACT by hand; ACTS, STATUS. */
final class TermsTwoTest {
    private static final Due due = new Due("TermsTwoTest");

    public static void main(String[] args) {
        flattery();
        looksWithoutLaw();
        looksByLaw();
        lettersOfLaw();
        shownByKind();
        soldTwice();
        portraitOfNow();
        twentyPortraits();
        feeFromThePurse();
        housePays();
        threatened();
        letterTellsOfFive();
        shoeTellsOfOdd();
        letterAndShoeCost();
        letterAndShoeOnce();
        dowryByTen();
        purseOfTheWed();
        annulledByThree();
        annulledWithoutPortraits();
        wedAgain();
        monthsAndPurse();
        lastMonth();
        eachIsAnAct();
        latestForty();
        firstOfSeveral();
        statusIsNotUndone();
        due.finish();
    }

    /** What a HOUSE PAYS less FEAR by 3, cut; 0 at least. */
    private static void flattery() {
        int[] takes = {0, 0, 0, 1, 1, 1, 2, 2, 2, 3};
        for (int pays = 0; pays < 10; pays++) {
            for (int fear = 0; fear < 10; fear++) {
                NinePortraits x = Due.court("by" + pays + ";pa" + fear);
                int want = pays < takes[fear] ? 0 : pays - takes[fear];
                due.is("flattery of " + pays + " by " + fear, x.flattery(0, 0), want);
            }
        }
    }

    /** f and FLATTERY, less WARTS by 2, cut, held within 0 .. 9. */
    private static void looksWithoutLaw() {
        int[] takes = {0, 0, 1, 1, 2, 2, 3, 3, 4, 4};
        for (int warts = 0; warts < 10; warts++) {
            for (int pays = 0; pays < 10; pays++) {
                NinePortraits x = Due.court("bw" + warts + "y" + pays + ";pa2");
                for (int f = 0; f < 10; f++) {
                    int look = f + pays - takes[warts];
                    due.is(f + " with " + warts + " warts by " + pays, x.shown(0, 0, f), look < 0 ? 0 : look > 9 ? 9 : look);
                }
            }
        }
    }

    private static void looksByLaw() {
        String[] laws = {"y:0-9999", "y:0-1", "y:0", "y:1", "y:8", "y:9", "y:10", "y:9999"};
        int[] want = {0, 0, 0, 1, 8, 9, 9, 9};
        for (int i = 0; i < laws.length; i++) {
            NinePortraits x = Due.court("bf5;p");
            Due.law(x, laws[i]);
            due.is("shown by <" + laws[i] + ">", x.shown(0, 0, 5), want[i]);
            x.law(-1);
            due.is("shown by none", x.shown(0, 0, 5), 6);
        }
        NinePortraits y = new NinePortraits();
        Due.feed(y, "y:7");
        y.text(1);
        Due.feed(y, "bf5w0y0;p");
        y.text(0);
        due.is("none holds at first", y.shown(0, 0, 5), 5);
    }

    private static void lettersOfLaw() {
        for (int v = 0; v < 10; v++) {
            for (String letter : new String[] {"f", "w", "y", "s", "a", "m"}) {
                NinePortraits x = Due.court("bf5w" + v + "y" + v + ";ps" + v + "a" + v);
                Due.law(x, "y:" + letter);
                due.is("letter " + letter, x.shown(0, 0, v), letter.equals("m") ? 0 : v);
            }
        }
        NinePortraits now = Due.court("by3;pa3");
        Due.law(now, "y:y");
        now.pay(0, 4);
        due.is("what the HOUSE PAYS now", now.shown(0, 0, 0), 7);
        Due.law(now, "y:a");
        now.threaten(0);
        due.is("FEAR now", now.shown(0, 0, 0), 4);
        Due.law(now, "y:m-990");
        due.is("MONTH 0", now.shown(0, 0, 0), 0);
        for (int i = 0; i < 16; i++) {
            now.months(60);
        }
        now.months(39);
        due.is("MONTH 999", now.shown(0, 0, 0), 9);
    }

    /** 0 that; 1 half of that and 7 together, cut; 2 that less 2, 0 at least; 3 as by 0. */
    private static void shownByKind() {
        int[][] want = {{0, 1, 2, 3, 4, 5, 6, 7, 8, 9}, {3, 4, 4, 5, 5, 6, 6, 7, 7, 8},
            {0, 0, 0, 1, 2, 3, 4, 5, 6, 7}, {0, 1, 2, 3, 4, 5, 6, 7, 8, 9}};
        NinePortraits x = Due.court("bw0y0;pk0;pk1;pk2;pk3");
        for (int kind = 0; kind < 4; kind++) {
            for (int look = 0; look < 10; look++) {
                due.is(look + " by kind " + kind, x.shown(kind, 0, look), want[kind][look]);
            }
        }
    }

    private static void soldTwice() {
        NinePortraits x = Due.court("bf2w0y0;bf7w0y0;pk3f0;pk3f0;pk0f0");
        x.paint(2, 1);
        x.paint(1, 1);
        due.is("of another hand", x.shown(0, 0, 4), 4);
        due.is("its own", x.shown(1, 0, 4), 7);
        x.paint(0, 0);
        due.is("its own then", x.shown(0, 1, 4), 2);
        x.paint(2, 1);
        due.is("its own still", x.shown(0, 1, 9), 2);
        x.undo();
        x.undo();
        due.is("as by 0 again", x.shown(0, 1, 9), 9);
        x.paint(0, 1);
        due.is("another one then", x.shown(0, 0, 0), 7);
    }

    private static void portraitOfNow() {
        NinePortraits x = Due.court("bf2w0y0;bf7w0y2;pa0f0");
        x.months(3);
        due.is("what it shows", x.paint(0, 1), 9);
        x.pay(1, -2);
        due.is("less", x.paint(0, 1), 7);
        x.months(1);
        due.is("what was shown stays", x.portrait(1, 2), 9);
        due.is("and the month", x.portrait(1, 3) * 10 + x.portrait(0, 3), 33);
    }

    private static void twentyPortraits() {
        NinePortraits x = Due.court("sp0;b;b;pf0");
        for (int i = 0; i < 20; i++) {
            due.is("portrait " + i, x.paint(0, i % 2) >= 0, true);
            due.is("how many", x.count(7), i + 1);
        }
        due.none("twenty", x.paint(0, 0));
        due.is("twenty", x.count(7) * 10 + x.status(4), 201);
        due.is("the first", x.portrait(19, 0), 0);
        due.none("none ahead of it", x.portrait(20, 0));
        x.undo();
        due.none("nineteen", x.portrait(19, 0));
        due.is("a place again", x.paint(0, 0) >= 0, true);
        due.none("twenty again", x.paint(0, 0));
    }

    private static void feeFromThePurse() {
        int[][] purses = {{0, 0}, {1, 1}, {30, 30}, {99, 30}, {31, 30}};
        for (int[] pair : purses) {
            NinePortraits x = Due.court("sp" + pair[0] + ";b;pf" + pair[1]);
            due.is("fee " + pair[1] + " of " + pair[0], x.paint(0, 0) >= 0, true);
            due.is("what is left", x.rule(0), pair[0] - pair[1]);
        }
        for (int fee = 1; fee <= 30; fee++) {
            NinePortraits x = Due.court("sp" + (fee - 1) + ";b;pf" + fee);
            due.none("fee " + fee + " of one less", x.paint(0, 0));
            due.is("too little", x.status(2), 1);
            x.months(1);
            due.is("a month later", x.paint(0, 0) >= 0, true);
        }
    }

    private static void housePays() {
        for (int pays = 0; pays < 10; pays++) {
            for (int n = -11; n <= 11; n++) {
                NinePortraits x = Due.court("b;by" + pays + ";p");
                boolean good = n != 0 && n >= -9 && n <= 9 && pays + n >= 0 && pays + n <= 9;
                due.is(pays + " and " + n, x.pay(1, n), good ? pays + n : -1);
                due.is("pays then", x.bride(1, 3), good ? pays + n : pays);
                due.is("out of bounds", x.status(1), good ? 0 : 1);
                due.is("acts", x.count(9), good ? 1 : 0);
                due.is("the other and the purse", x.bride(0, 3) * 100 + x.rule(0), 240);
            }
        }
    }

    private static void threatened() {
        for (int fear = 0; fear < 10; fear++) {
            NinePortraits x = Due.court("b;p;pa" + fear);
            due.is("threatened at " + fear, x.threaten(1), fear < 9 ? fear + 1 : -1);
            due.is("fear then", x.painter(1, 2), fear < 9 ? fear + 1 : 9);
            due.is("nine", x.status(1), fear < 9 ? 0 : 1);
            due.is("the other and the purse", x.painter(0, 2) * 100 + x.rule(0), 340);
        }
    }

    private static void letterTellsOfFive() {
        int[] want = {0, 0, 0, 0, 0, 1, 1, 1, 1, 1};
        for (int f = 0; f < 10; f++) {
            due.is("letter of " + f, Due.court("bf" + f + ";p").letter(0), want[f]);
        }
    }

    private static void shoeTellsOfOdd() {
        int[] want = {0, 1, 0, 1, 0, 1, 0, 1, 0, 1};
        for (int f = 0; f < 10; f++) {
            due.is("shoe of " + f, Due.court("bf" + f + ";p").shoe(0), want[f]);
        }
    }

    private static void letterAndShoeCost() {
        int[] letterLeft = {-1, -1, 0, 1};
        int[] shoeLeft = {-1, 0, 1, 2};
        for (int purse = 0; purse < 4; purse++) {
            NinePortraits x = Due.court("sp" + purse + ";b;p");
            boolean good = letterLeft[purse] >= 0;
            due.is("a letter of " + purse, x.letter(0), good ? 1 : -1);
            due.is("left of " + purse, x.rule(0), good ? letterLeft[purse] : purse);
            due.is("too little", x.status(2), good ? 0 : 1);
            due.is("there was", x.bride(0, 4) * 10 + x.bride(0, 5), good ? 10 : 0);
            NinePortraits y = Due.court("sp" + purse + ";b;p");
            boolean had = shoeLeft[purse] >= 0;
            due.is("a shoe of " + purse, y.shoe(0), had ? 1 : -1);
            due.is("left of " + purse, y.rule(0), had ? shoeLeft[purse] : purse);
            due.is("too little", y.status(2), had ? 0 : 1);
            due.is("there was", y.bride(0, 4) * 10 + y.bride(0, 5), had ? 1 : 0);
        }
    }

    private static void letterAndShoeOnce() {
        NinePortraits x = Due.court("sp99;b;b;b;b;b;b;p");
        for (int bride = 0; bride < 6; bride++) {
            due.is("a letter", x.letter(bride), 1);
            due.none("it was", x.letter(bride));
            due.is("a shoe", x.shoe(bride), 1);
            due.none("it was", x.shoe(bride));
            due.is("the purse", x.rule(0), 99 - 3 * (bride + 1));
            due.is("it was", x.status(1), 2 * (bride + 1));
        }
        x.undo();
        due.is("undone it was not", x.shoe(5), 1);
    }

    private static void dowryByTen() {
        for (int dowry = 0; dowry < 100; dowry++) {
            NinePortraits x = Due.court("sp7;b;bd" + dowry + ";p");
            due.is("wed for " + dowry, x.wed(1), 7 + (dowry - dowry % 10) / 10);
            due.is("who is wed", x.count(6), 1);
        }
    }

    /** The PURSE of so many, by months alone. */
    private static NinePortraits withPurse(String brides, int purse) {
        NinePortraits x = Due.court("sp99;" + brides + ";p");
        for (int left = purse - 99; left > 0; left -= 60) {
            x.months(Math.min(60, left));
        }
        due.is("a purse of " + purse, x.rule(0), purse);
        return x;
    }

    private static void purseOfTheWed() {
        due.is("990 and 9", withPurse("bd99", 990).wed(0), 999);
        due.is("991 and 9", withPurse("bd99", 991).wed(0), 999);
        due.is("989 and 9", withPurse("bd99", 989).wed(0), 998);
        due.is("998 and 1", withPurse("bd19", 998).wed(0), 999);
        due.is("999 and 1", withPurse("bd10", 999).wed(0), 999);
        due.is("999 and 0", withPurse("bd9", 999).wed(0), 999);
        NinePortraits x = withPurse("bd99", 995);
        x.wed(0);
        x.undo();
        due.is("undone", x.rule(0), 995);
    }

    /** A bride of such a FACE, wed, with PORTRAITS of such LOOKS. */
    private static NinePortraits painted(int face, int... looks) {
        NinePortraits x = Due.court("by9;bf" + face + "y0;pf0");
        Due.law(x, "y:y");
        x.paint(0, 0);
        for (int look : looks) {
            int more = look - x.bride(1, 3);
            if (more != 0) {
                x.pay(1, more);
            }
            due.is("looks " + look, x.paint(0, 1), look);
        }
        x.wed(1);
        return x;
    }

    private static void annulled(boolean want, int face, int... looks) {
        NinePortraits x = painted(face, looks);
        due.is(looks.length + " portraits of " + face, x.annul(), want ? 1 : -1);
        due.is("who is wed", x.count(6), want ? -1 : 1);
        due.is("not to be", x.status(4), want ? 0 : 1);
    }

    private static void annulledByThree() {
        annulled(false, 3, 3);
        annulled(false, 3, 5);
        annulled(true, 3, 6);
        annulled(true, 3, 9);
        annulled(false, 9, 0);
        annulled(false, 7, 9);
        annulled(true, 6, 9);
        annulled(true, 0, 3);
        annulled(false, 0, 2);
        annulled(false, 3, 6, 5);
        annulled(true, 3, 7, 5);
        annulled(true, 3, 6, 7);
        annulled(false, 3, 6, 6, 6, 5);
        annulled(true, 3, 6, 6, 6, 6);
        annulled(true, 3, 9, 9, 0, 6);
        annulled(false, 3, 9, 9, 0, 5);
    }

    private static void annulledWithoutPortraits() {
        for (int f = 0; f < 10; f++) {
            annulled(false, f);
        }
    }

    private static void wedAgain() {
        NinePortraits x = painted(3, 6);
        due.none("one is wed", x.wed(0));
        due.is("annulled", x.annul(), 1);
        due.none("none is wed", x.annul());
        due.is("nobody is wed", x.wed(0) >= 0, true);
        due.is("who", x.count(6), 0);
    }

    private static void monthsAndPurse() {
        for (int n = 1; n <= 60; n++) {
            NinePortraits x = Due.court("sp0;b;p");
            due.is("months(" + n + ")", x.months(n), n);
            due.is("one more each", x.rule(0), n);
        }
        NinePortraits x = withPurse("b", 998);
        x.months(1);
        due.is("999", x.rule(0), 999);
        x.months(1);
        due.is("999 at most", x.rule(0), 999);
        x.shoe(0);
        x.months(2);
        due.is("998 and 2", x.rule(0), 999);
    }

    private static NinePortraits inMonth(int month) {
        NinePortraits x = Due.court("b;p");
        for (int left = month; left > 0; left -= 60) {
            x.months(Math.min(60, left));
        }
        due.is("month", x.count(5), month);
        return x;
    }

    /** MONTH 999 at most: none goes by then. */
    private static void lastMonth() {
        for (int from = 939; from <= 999; from += 4) {
            for (int n = 1; n <= 60; n += 7) {
                NinePortraits x = inMonth(from);
                int purse = x.rule(0);
                boolean good = from + n <= 999;
                due.is("months(" + n + ") from " + from, x.months(n), good ? from + n : -1);
                due.is("month then", x.count(5), good ? from + n : from);
                due.is("purse then", x.rule(0), good ? Math.min(999, purse + n) : purse);
                due.is("beyond the last", x.status(4), good ? 0 : 1);
            }
        }
        due.is("939 and 60", inMonth(939).months(60), 999);
        due.none("940 and 60", inMonth(940).months(60));
        due.is("998 and 1", inMonth(998).months(1), 999);
        due.none("999 and 1", inMonth(999).months(1));
    }

    /** All these (each MONTH) are ACTS, and each is UNDONE as a whole, and alone. */
    private static void eachIsAnAct() {
        NinePortraits x = Due.court("bf3w0y4;b;pa0;p");
        String[] states = new String[11];
        for (int act = 0; act < 10; act++) {
            states[act] = Due.all(x);
            switch (act) {
                case 0 -> x.paint(0, 0);
                case 1 -> x.pay(0, 1);
                case 2 -> x.threaten(1);
                case 3 -> x.letter(1);
                case 4 -> x.shoe(0);
                case 5 -> x.wed(0);
                case 6 -> x.annul();
                case 7 -> x.months(1);
                case 8 -> x.letter(0);
                default -> x.shoe(1);
            }
            due.is("act " + act, x.count(9), act + 1);
            due.is("act " + act + " changes something", Due.all(x).equals(states[act]), false);
        }
        x.bribes(3);
        x.law(-1);
        x.image();
        due.is("no acts", x.count(9), 10);
        for (int act = 9; act >= 0; act--) {
            due.is("undone " + act, x.undo(), act);
            due.is("as it was ahead of " + act, Due.all(x).equals(states[act]), true);
        }
        x.months(3);
        due.is("each month", x.count(9), 3);
    }

    /** The latest 40 can be UNDONE one by one. */
    private static void latestForty() {
        for (int n = 38; n <= 43; n++) {
            NinePortraits x = Due.court("b;p");
            for (int i = 0; i < n; i++) {
                x.months(1);
            }
            int can = Math.min(40, n);
            due.is("of " + n, x.count(9), can);
            for (int i = can - 1; i >= 0; i--) {
                due.is("undone of " + n, x.undo(), i);
                due.is("the month then", x.count(5), n - can + i);
            }
            due.none("no more", x.undo());
            due.is("as it was", x.count(5) * 100 + x.rule(0), (n - can) * 100 + 40 + n - can);
        }
        NinePortraits y = Due.court("b;p");
        y.months(41);
        for (int i = 0; i < 5; i++) {
            y.undo();
        }
        y.months(5);
        due.is("35 and 5", y.count(9), 40);
        y.months(1);
        due.is("40 at most", y.count(9), 40);
        for (int i = 0; i < 40; i++) {
            y.undo();
        }
        due.is("the oldest are gone", y.count(5), 2);
    }

    private static void counted(String call, NinePortraits x, Consumer<NinePortraits> act, int status) {
        int acts = x.count(9);
        int[] was = new int[5];
        for (int what = 0; what < 5; what++) {
            was[what] = x.status(what);
        }
        act.accept(x);
        for (int what = 0; what < 5; what++) {
            due.is(call + ", status(" + what + ")", x.status(what), was[what] + (what == status ? 1 : 0));
        }
        due.is(call + ", acts", x.count(9), acts);
    }

    private static void firstOfSeveral() {
        NinePortraits x = Due.court("sp0;by0;by9;pf0a9;pf1");
        x.wed(0);
        for (int i = 0; i < 20; i++) {
            x.paint(0, 0);
        }
        while (x.rule(0) > 0) {
            x.shoe(x.bride(0, 5));
        }
        counted("no such painter, twenty", x, y -> y.paint(2, 0), 0);
        counted("no such bride, too little, twenty", x, y -> y.paint(1, 2), 0);
        counted("too little, twenty", x, y -> y.paint(1, 0), 2);
        counted("twenty", x, y -> y.paint(0, 0), 4);
        counted("no such bride, out of bounds", x, y -> y.pay(2, 10), 0);
        counted("out of bounds, above nine", x, y -> y.pay(1, 10), 1);
        counted("it was, too little", x, y -> y.shoe(0), 1);
        counted("too little", x, y -> y.letter(0), 2);
        counted("no such bride, too little", x, y -> y.letter(2), 0);
        counted("no such bride, one is wed", x, y -> y.wed(2), 0);
        counted("one is wed", x, y -> y.wed(1), 3);
        counted("not to be", x, y -> y.annul(), 4);
        NinePortraits last = inMonth(999);
        counted("out of bounds, beyond the last", last, y -> y.months(61), 1);
        counted("beyond the last", last, y -> y.months(60), 4);
        counted("none is wed", last, y -> y.annul(), 3);
    }

    private static void statusIsNotUndone() {
        NinePortraits x = Due.court("sp1;b;p");
        x.months(1);
        x.image();
        x.paint(0, 0);
        x.wed(5);
        x.months(0);
        x.annul();
        x.undo();
        x.back();
        Due.feed(x, "b;p");
        x.text(0);
        int[] want = {1, 1, 1, 1, 0};
        for (int what = 0; what < 5; what++) {
            due.is("status(" + what + ") stays", x.status(what), want[what]);
        }
    }
}
