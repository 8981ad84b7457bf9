/** Promises 37 to 49: looks, whose, heads, matches, sums over the court, images, counts. */
final class HouseTest {
    private static final Due due = new Due("HouseTest");

    public static void main(String[] args) {
        looksSeenTold();
        whose();
        heads();
        matched();
        most();
        saves();
        rivals();
        affords();
        image();
        imageKeepsAll();
        counts();
        due.finish();
    }

    private static void looksSeenTold() {
        NinePortraits x = Due.court("bf3w0y3;bf8w9y0;b;pf0a0;pf0a0k2;pf0");
        due.hidden("no portrait", x.looks(0));
        due.hidden("no portrait", x.told(0));
        due.is("seen", x.seen(0), 0);
        due.is("6 of 3", x.paint(0, 0), 6);
        due.is("4 of 3", x.paint(1, 0), 4);
        due.is("4 of 8", x.paint(0, 1), 4);
        due.is("2 of 8", x.paint(1, 1), 2);
        due.is("4 of 8", x.paint(0, 1), 4);
        due.is("looks", x.looks(0), 2);
        due.is("10 by 3 is 3", x.looks(1), -5);
        due.hidden("no portrait", x.looks(2));
        due.is("seen", x.seen(0) * 100 + x.seen(1) * 10 + x.seen(2), 230);
        due.is("3 less 8", x.told(0), -5);
        due.is("1 less 6", x.told(1), -5);
        due.hidden("none of its hand", x.told(2));
        due.is("lies", x.most(4), 3 + 1 + 4 + 6 + 4);
        x.paint(2, 2);
        due.is("3 less 8 still", x.told(0), -5);
        due.is("6 of 5", x.told(2), x.portrait(0, 2) - 5);
        x.paint(0, 0);
        due.is("6 less 8", x.told(0), -2);
        due.is("16 by 3 is 5", x.looks(0), 2);
        x.undo();
        x.undo();
        due.is("undone", x.looks(0) * 10 + x.seen(0), 22);
        due.hidden("undone", x.told(2));
        due.hidden("looks(3)", x.looks(3));
        due.hidden("looks(-1)", x.looks(-1));
        due.hidden("told(3)", x.told(3));
        due.hidden("told(-1)", x.told(-1));
        due.none("seen(3)", x.seen(3));
        due.none("seen(-1)", x.seen(-1));
    }

    private static void whose() {
        NinePortraits x = Due.court("bf3w0y3;bf6w0y0;bf5w2y2;bf9y9;pa0f0;pa0k1;pf0a0k3");
        due.is("6", x.whose(0, 6), 7);
        due.is("9", x.whose(0, 9), 8);
        due.is("0", x.whose(0, 0), 0);
        due.is("13 by 2", x.whose(1, 6), 7);
        due.is("16 by 2", x.whose(1, 8), 8);
        due.is("kind 3 as by 0", x.whose(2, 9), 8);
        x.paint(2, 3);
        due.is("sold twice", x.whose(2, 9), 15);
        due.is("sold twice", x.whose(2, 6), 0);
        due.none("no such painter", x.whose(3, 0));
        due.none("no such painter", x.whose(-1, 0));
        due.none("v", x.whose(0, 10));
        due.none("v", x.whose(0, -1));
    }

    private static void heads() {
        NinePortraits x = Due.court("b;pa5;pa6");
        due.is("none", x.heads(0, 0, 100), 1000000000);
        due.is("surely", x.heads(0, 1, 100), 0);
        due.is("never", x.heads(0, 20, 0), 1000000000);
        due.is("by half", x.heads(1, 1, 100), 500000000);
        due.is("half of 1 is none", x.heads(1, 20, 1), 1000000000);
        due.is("half of 5", x.heads(1, 1, 5), 980000000);
        due.is("1 of 100, five times", x.heads(0, 5, 1), 950990050);
        long left = 1000000000L;
        for (int n = 1; n <= 20; n++) {
            left = left - left * 37 / 100;
            due.is("heads(0, " + n + ", 37)", x.heads(0, n, 37), left);
        }
        x.threaten(0);
        due.is("fear of six", x.heads(0, 1, 50), 750000000);
        due.none("n", x.heads(0, 21, 0));
        due.none("n", x.heads(0, -1, 0));
        due.none("chance", x.heads(0, 0, 101));
        due.none("chance", x.heads(0, 0, -1));
        due.none("painter", x.heads(2, 0, 0));
        due.none("painter", x.heads(-1, 0, 0));
    }

    private static void matched() {
        NinePortraits x = Due.court("by2;by7;by2;by9;pf5;pf3;pf5");
        int[] want = {2, 0, -1, 1};
        for (int bride = 0; bride < 4; bride++) {
            due.is("matched(" + bride + ")", x.matched(bride), want[bride]);
        }
        x.pay(2, 7);
        int[] then = {-1, 2, 0, 1};
        int[] those = {-1, 2, 1, 0};
        for (int bride = 0; bride < 4; bride++) {
            due.is("then matched(" + bride + ")", x.matched(bride), bride < 2 ? then[bride] : those[bride]);
        }
        due.none("matched(4)", x.matched(4));
        due.none("matched(-1)", x.matched(-1));
    }

    private static void most() {
        NinePortraits x = Due.court("bf8d30w0y0;bf3d50w0y0;bf8d50w0y0;ps9f9;ps9f0;ps9f0");
        due.is("plain, none told", x.most(0), 7);
        x.paint(1, 0);
        x.paint(1, 1);
        due.is("plain", x.most(0), 6);
        x.letter(2);
        due.is("plain", x.most(0), 2);
        due.is("richest", x.most(1), 1);
        due.is("fairest", x.most(2), 0);
        due.is("cheap", x.most(3), 1);
        due.is("lies", x.most(4), 0);
        due.none("most(5)", x.most(5));
        due.none("most(-1)", x.most(-1));
        due.none("no court", new NinePortraits().most(4));
        NinePortraits y = Due.court("bf5w0y0;ps9");
        y.paint(0, 0);
        due.is("5 is not below 5", y.most(0), 0);
        NinePortraits z = Due.court("bf4w0y0;ps9");
        z.paint(0, 0);
        due.is("4 is", z.most(0), 1);
    }

    private static void saves() {
        NinePortraits x = Due.court("sp20;b;p");
        due.is("saves(1)", x.saves(1), 0);
        due.is("saves(20)", x.saves(20), 0);
        due.is("saves(21)", x.saves(21), 1);
        due.is("saves(999)", x.saves(999), 979);
        due.none("saves(0)", x.saves(0));
        due.none("saves(1000)", x.saves(1000));
        due.none("no court", new NinePortraits().saves(1));
        x.months(7);
        due.is("seven later", x.saves(30), 3);
    }

    private static void rivals() {
        NinePortraits x = Due.court("sf2d1;bf5d20;bf6d0;bf7d9;bf4d99;p");
        int[] want = {12, 12, 8, 0};
        for (int bride = 0; bride < 4; bride++) {
            due.is("rivals(" + bride + ")", x.rivals(bride), want[bride]);
        }
        due.none("rivals(4)", x.rivals(4));
        due.none("rivals(-1)", x.rivals(-1));
    }

    private static void affords() {
        NinePortraits x = Due.court("sp29;b;pf10;pf0;pf1;pf30");
        due.is("two", x.affords(0), 2);
        due.is("twenty", x.affords(1), 20);
        due.is("twenty", x.affords(2), 20);
        due.is("none", x.affords(3), 0);
        x.paint(1, 0);
        x.paint(1, 0);
        x.paint(0, 0);
        due.is("one", x.affords(0), 1);
        due.is("seventeen", x.affords(1), 17);
        due.is("seventeen", x.affords(2), 17);
        for (int i = 0; i < 16; i++) {
            x.paint(1, 0);
        }
        due.is("one place", x.affords(2), 1);
        x.paint(1, 0);
        due.is("no place", x.affords(0) + x.affords(1) + x.affords(2), 0);
        due.none("affords(4)", x.affords(4));
        due.none("affords(-1)", x.affords(-1));
    }

    private static void image() {
        NinePortraits x = Due.court("sp50;bf3w0y9;b;pa0;p");
        due.none("no image", x.back());
        x.months(2);
        due.is("image", x.image(), 2);
        due.is("acts stay", x.count(9), 2);
        x.months(3);
        due.is("another", x.image(), 5);
        x.months(1);
        due.is("back", x.back(), 5);
        due.is("purse", x.rule(0), 55);
        due.none("no act can be undone", x.undo());
        due.is("acts", x.count(9), 0);
        x.months(4);
        x.undo();
        due.is("month", x.count(5), 8);
        due.is("back again", x.back(), 5);
        due.is("back at once", x.back(), 5);
        due.none("no court", new NinePortraits().image());
    }

    private static void imageKeepsAll() {
        NinePortraits x = Due.court("sp99;bf3w0y1;bf6;b;b;b;bf9;pf1a0;pf1;pf1;pf1;pf1a4");
        x.paint(0, 0);
        x.paint(4, 5);
        x.pay(5, 2);
        x.threaten(4);
        x.letter(5);
        x.shoe(1);
        x.wed(2);
        x.months(2);
        String was = Due.all(x);
        x.image();
        x.undo();
        x.undo();
        x.undo();
        x.undo();
        x.undo();
        x.undo();
        x.undo();
        x.undo();
        x.paint(3, 3);
        x.paint(2, 2);
        x.pay(0, 1);
        x.wed(5);
        x.bribes(3);
        x.paint(9, 9);
        due.is("it is otherwise", Due.all(x).equals(was), false);
        x.back();
        due.is("all is so again", Due.all(x).equals(was), true);
        due.is("BRIBES stay", x.count(8), 3);
        due.is("STATUS stays", x.status(0), 1);
    }

    private static void counts() {
        NinePortraits x = Due.court("b;b;p;p;p");
        Due.law(x, "y:1");
        Due.feed(x, "xy");
        x.bribes(6);
        x.months(4);
        x.wed(1);
        x.paint(2, 0);
        int[] want = {2, 3, 1, 2, 0, 4, 1, 1, 6, 6};
        for (int what = 0; what < 10; what++) {
            due.is("count(" + what + ")", x.count(what), want[what]);
        }
        due.hidden("count(10)", x.count(10));
        due.hidden("count(-1)", x.count(-1));
        due.hidden("count far off", x.count(Integer.MIN_VALUE));
    }
}
