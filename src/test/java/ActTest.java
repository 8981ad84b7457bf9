/** Promises 12 to 19 and 22 to 24: acts, STATUS, acts undone, portraits. */
final class ActTest {
    private static final Due due = new Due("ActTest");

    public static void main(String[] args) {
        paint();
        pay();
        threaten();
        letterAndShoe();
        wedAndAnnul();
        months();
        statusOfNoCourt();
        undo();
        undoOfAll();
        portraits();
        due.finish();
    }

    private static void status(NinePortraits x, int a, int b, int c, int d, int e) {
        int[] want = {a, b, c, d, e};
        for (int what = 0; what < 5; what++) {
            due.is("status(" + what + ")", x.status(what), want[what]);
        }
        due.none("status(5)", x.status(5));
        due.none("status(-1)", x.status(-1));
    }

    private static void paint() {
        NinePortraits x = Due.court("sp10;bf3w0y4;bf9;pf4a3;pf0a0;pf7");
        due.is("paint(0, 0)", x.paint(0, 0), 6);
        due.is("fee from the purse", x.rule(0), 6);
        due.none("no such painter", x.paint(3, 0));
        due.none("no such bride", x.paint(0, 2));
        due.none("none at all", x.paint(-1, -1));
        due.none("too little", x.paint(2, 0));
        status(x, 3, 0, 1, 0, 0);
        due.is("a fee of nought", x.paint(1, 0), 7);
        for (int i = 2; i < 20; i++) {
            due.is("portrait " + i, x.paint(1, 1), 9);
        }
        due.is("twenty", x.count(7), 20);
        due.none("twenty", x.paint(1, 0));
        due.none("too little comes first", x.paint(2, 0));
        due.none("no such one comes first", x.paint(2, 9));
        due.none("enough, but twenty", x.paint(0, 0));
        status(x, 4, 0, 2, 0, 2);
        due.is("nothing is changed", x.rule(0) * 100 + x.count(7), 620);
        NinePortraits y = Due.court("sp4;b;pf4");
        due.is("just enough", y.paint(0, 0) >= 0, true);
        due.is("purse of nought", y.rule(0), 0);
    }

    private static void pay() {
        NinePortraits x = Due.court("by4;b;p");
        due.is("pay(0, 5)", x.pay(0, 5), 9);
        due.none("above nine", x.pay(0, 1));
        due.is("pay(0, -9)", x.pay(0, -9), 0);
        due.none("below 0", x.pay(0, -1));
        due.none("0", x.pay(0, 0));
        due.none("10", x.pay(0, 10));
        due.none("-10", x.pay(0, -10));
        due.none("far off", x.pay(0, Integer.MAX_VALUE));
        due.none("far below", x.pay(0, Integer.MIN_VALUE));
        due.is("pay(0, 9)", x.pay(0, 9), 9);
        due.none("no such bride", x.pay(2, 0));
        due.none("no such bride", x.pay(-1, 1));
        due.is("the other", x.bride(1, 3), 2);
        due.is("the purse", x.rule(0), 40);
        status(x, 2, 7, 0, 0, 0);
    }

    private static void threaten() {
        NinePortraits x = Due.court("b;pa7;p");
        due.is("threaten(0)", x.threaten(0), 8);
        due.is("threaten(0)", x.threaten(0), 9);
        due.none("nine", x.threaten(0));
        due.none("no such painter", x.threaten(2));
        due.none("no such painter", x.threaten(-1));
        due.is("fears", x.painter(0, 2) * 10 + x.painter(1, 2), 93);
        status(x, 2, 1, 0, 0, 0);
    }

    private static void letterAndShoe() {
        NinePortraits x = Due.court("sp7;bf5;bf4;bf9;p");
        due.is("letter(0)", x.letter(0), 1);
        due.is("purse", x.rule(0), 5);
        due.is("letter(1)", x.letter(1), 0);
        due.is("purse", x.rule(0), 3);
        due.none("it was", x.letter(0));
        due.is("shoe(0)", x.shoe(0), 1);
        due.is("shoe(1)", x.shoe(1), 0);
        due.is("purse", x.rule(0), 1);
        due.none("it was", x.shoe(1));
        due.none("too little", x.letter(2));
        due.none("it was comes first", x.letter(1));
        due.is("shoe(2)", x.shoe(2), 1);
        due.is("purse", x.rule(0), 0);
        due.none("no such bride", x.letter(3));
        due.none("no such bride", x.letter(-1));
        due.none("no such bride", x.shoe(3));
        due.none("no such bride", x.shoe(-1));
        status(x, 4, 3, 1, 0, 0);
        NinePortraits y = Due.court("sp0;b;p");
        due.none("too little", y.shoe(0));
        due.none("too little", y.letter(0));
        status(y, 0, 0, 2, 0, 0);
        due.is("none was", y.bride(0, 4) + y.bride(0, 5), 0);
        NinePortraits z = Due.court("sp2;b;p");
        due.is("just enough", z.letter(0), 1);
        due.none("too little", z.shoe(0));
    }

    private static void wedAndAnnul() {
        NinePortraits x = Due.court("sp90;bf3d99w0y3;bf4d9w0y9;pa0f0s9;pa9f0k2");
        due.none("none is wed", x.annul());
        due.none("no such bride", x.wed(2));
        due.none("no such bride", x.wed(-1));
        due.is("wed(0)", x.wed(0), 99);
        due.is("who is wed", x.count(6), 0);
        due.none("one is wed", x.wed(0));
        due.none("one is wed", x.wed(1));
        due.none("no such bride comes first", x.wed(2));
        due.none("no portrait", x.annul());
        due.is("shown 6 of 3", x.paint(0, 0), 6);
        due.is("shown 1 of 3", x.paint(1, 0), 1);
        due.none("7 by 2 is 3", x.annul());
        for (int i = 0; i < 10; i++) {
            due.is("shown 6 of 3", x.paint(0, 0), 6);
        }
        due.none("67 by 12 is 5", x.annul());
        due.is("looks", x.looks(0), 2);
        x.pay(0, 6);
        due.is("shown 9 of 3", x.paint(0, 0), 9);
        due.none("76 by 13 is 5", x.annul());
        due.is("shown 9 of 3", x.paint(0, 0), 9);
        due.is("85 by 14 is 6", x.annul(), 0);
        due.is("nobody is wed", x.count(6), -1);
        due.is("the dowry stays", x.rule(0), 99);
        due.none("none is wed", x.annul());
        due.is("wed(1)", x.wed(1), 99);
        status(x, 3, 0, 0, 4, 4);
        NinePortraits z = Due.court("bd10;bd70;bd99;p");
        int[] purses = {41, 47, 49};
        for (int bride = 0; bride < 3; bride++) {
            due.is("wed(" + bride + ")", z.wed(bride), purses[bride]);
            z.undo();
        }
        NinePortraits y = Due.court("bd99;p");
        for (int i = 0; i < 16; i++) {
            y.months(60);
        }
        due.is("a purse near its most", y.rule(0), 999);
        due.is("999 at most", y.wed(0), 999);
    }

    private static void months() {
        NinePortraits x = Due.court("sp99;b;p");
        due.is("months(1)", x.months(1), 1);
        due.is("purse", x.rule(0), 100);
        due.is("months(60)", x.months(60), 61);
        due.is("acts", x.count(9), 40);
        due.none("0", x.months(0));
        due.none("61", x.months(61));
        due.none("-1", x.months(-1));
        due.none("far off", x.months(Integer.MAX_VALUE));
        for (int i = 0; i < 15; i++) {
            x.months(60);
        }
        due.is("month", x.count(5), 961);
        due.is("purse at most", x.rule(0), 999);
        due.none("beyond", x.months(39));
        due.is("none goes by", x.count(5), 961);
        due.is("the last", x.months(38), 999);
        due.none("beyond", x.months(1));
        due.none("out of bounds comes first", x.months(61));
        status(x, 0, 5, 0, 0, 2);
        due.is("undone", x.undo(), 39);
        due.is("month", x.count(5), 998);
        due.is("once more", x.months(1), 999);
    }

    private static void statusOfNoCourt() {
        NinePortraits x = new NinePortraits();
        x.annul();
        x.months(0);
        x.months(99);
        x.paint(0, 0);
        x.pay(0, 99);
        x.letter(0);
        x.shoe(0);
        x.threaten(0);
        x.wed(0);
        x.undo();
        x.back();
        x.image();
        x.decades(0, 0L);
        x.bribes(10);
        status(x, 9, 0, 0, 0, 0);
    }

    private static void undo() {
        NinePortraits x = Due.court("sp9;bf3;p");
        due.none("none", x.undo());
        x.paint(0, 0);
        x.paint(0, 0);
        due.is("one was refused", x.count(9), 1);
        due.is("undone", x.undo(), 0);
        due.is("purse, portraits", x.rule(0) * 10 + x.count(7), 90);
        due.is("STATUS is not undone", x.status(2), 1);
        due.none("none", x.undo());
        for (int i = 0; i < 9; i++) {
            x.months(5);
        }
        due.is("forty at most", x.count(9), 40);
        for (int i = 39; i >= 30; i--) {
            due.is("undone", x.undo(), i);
        }
        due.is("month", x.count(5), 35);
        x.threaten(0);
        x.months(2);
        due.is("can be undone", x.count(9), 33);
        for (int i = 32; i >= 0; i--) {
            due.is("undone", x.undo(), i);
        }
        due.is("month", x.count(5), 5);
        due.is("fear", x.painter(0, 2), 3);
        due.none("none", x.undo());
        due.is("month", x.count(5), 5);
    }

    private static void undoOfAll() {
        NinePortraits x = Due.court("bf3w0y9;b;b;b;b;bd99;pa0;p;p;p;p");
        String[] states = new String[12];
        for (int act = 0; act < 11; act++) {
            states[act] = Due.all(x);
            switch (act) {
                case 0 -> x.paint(0, 0);
                case 1 -> x.pay(5, 3);
                case 2 -> x.threaten(4);
                case 3 -> x.letter(5);
                case 4 -> x.shoe(4);
                case 5 -> x.wed(0);
                case 6 -> x.annul();
                case 7 -> x.months(1);
                case 8 -> x.paint(4, 5);
                case 9 -> x.wed(5);
                default -> x.decades(1, 77L);
            }
            due.is("act " + act + " was done", x.count(9), act + 1);
        }
        for (int act = 10; act >= 0; act--) {
            due.is("undone " + act, x.undo(), act);
            due.is("all of " + act + " is as it was", Due.all(x).equals(states[act]), true);
        }
    }

    private static void portraits() {
        NinePortraits x = Due.court("sp99;bf2w0y0;bf7w0y0;pf0;pf0");
        due.none("none", x.portrait(0, 0));
        x.paint(1, 0);
        x.months(3);
        x.paint(0, 1);
        int[][] want = {{1, 0, 7, 3}, {0, 1, 2, 0}};
        for (int i = 0; i < 2; i++) {
            for (int what = 0; what < 4; what++) {
                due.is("portrait(" + i + ", " + what + ")", x.portrait(i, what), want[i][what]);
            }
        }
        due.none("portrait(2, 0)", x.portrait(2, 0));
        due.none("portrait(-1, 0)", x.portrait(-1, 0));
        due.none("portrait(0, 4)", x.portrait(0, 4));
        due.none("portrait(0, -1)", x.portrait(0, -1));
        x.undo();
        due.is("the latest is undone", x.portrait(0, 0), 0);
        due.none("portrait(1, 0)", x.portrait(1, 0));
    }
}
