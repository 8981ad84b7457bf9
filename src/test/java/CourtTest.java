/** Promises 6 to 8, 10 and 11: what stands in the court, flattery, what is shown, laws' worth. */
final class CourtTest {
    private static final Due due = new Due("CourtTest");

    public static void main(String[] args) {
        defaults();
        told();
        flattery();
        kinds();
        laws();
        bounds();
        due.finish();
    }

    private static void defaults() {
        NinePortraits x = Due.court("b;p");
        int[] rules = {40, 5, 3};
        int[] bride = {5, 20, 1, 2, 0, 0};
        int[] painter = {5, 5, 3, 0};
        for (int what = 0; what < 3; what++) {
            due.is("rule(" + what + ")", x.rule(what), rules[what]);
        }
        for (int what = 0; what < 6; what++) {
            due.is("bride(0, " + what + ")", x.bride(0, what), bride[what]);
        }
        for (int what = 0; what < 4; what++) {
            due.is("painter(0, " + what + ")", x.painter(0, what), painter[what]);
        }
        NinePortraits y = Due.court("s;b;p");
        due.is("an s without items", y.rule(0) * 100 + y.rule(1) * 10 + y.rule(2), 4053);
    }

    private static void told() {
        NinePortraits x = Due.court("b f1 d2 w3 y4 ; p k1 a2 f3 s4 ; s d1 f2 p3 ; b y9 w8 d70 f6 ; p s9 f30 a9 k3");
        int[] rules = {3, 2, 1};
        int[][] brides = {{1, 2, 3, 4}, {6, 70, 8, 9}};
        int[][] painters = {{4, 3, 2, 1}, {9, 30, 9, 3}};
        for (int what = 0; what < 3; what++) {
            due.is("rule(" + what + ")", x.rule(what), rules[what]);
        }
        for (int i = 0; i < 2; i++) {
            for (int what = 0; what < 4; what++) {
                due.is("bride(" + i + ", " + what + ")", x.bride(i, what), brides[i][what]);
                due.is("painter(" + i + ", " + what + ")", x.painter(i, what), painters[i][what]);
            }
        }
        x.letter(1);
        due.is("a letter", x.bride(1, 4) * 10 + x.bride(1, 5), 10);
        x.shoe(1);
        due.is("a shoe", x.bride(1, 4) * 10 + x.bride(1, 5), 11);
        due.is("none of the other", x.bride(0, 4) + x.bride(0, 5), 0);
        due.is("the purse now", x.rule(0), 0);
        x.pay(0, 5);
        due.is("pays now", x.bride(0, 3), 9);
        x.threaten(0);
        due.is("fear now", x.painter(0, 2), 3);
    }

    private static void flattery() {
        NinePortraits x = Due.court("by5;by9;by1;pa0;pa2;pa3;pa8;pa9");
        int[][] want = {{5, 5, 4, 3, 2}, {9, 9, 8, 7, 6}, {1, 1, 0, 0, 0}};
        for (int bride = 0; bride < 3; bride++) {
            for (int painter = 0; painter < 5; painter++) {
                due.is("flattery(" + painter + ", " + bride + ")", x.flattery(painter, bride), want[bride][painter]);
            }
        }
        x.pay(2, 4);
        due.is("by what is paid now", x.flattery(2, 2), 4);
        x.threaten(1);
        due.is("by fear now", x.flattery(1, 2), 4);
    }

    private static void kinds() {
        NinePortraits x = Due.court("bf4w3y3;bf0w9y0;pa3;pa3k1;pa3k2;pa3k3");
        // The face and 2 of flattery, less 1 for the warts; for the other less 4.
        for (int f = 0; f < 10; f++) {
            int look = Math.min(9, f + 1);
            due.is("kind 0 of " + f, x.shown(0, 0, f), look);
            due.is("kind 1 of " + f, x.shown(1, 0, f), (look + 7) / 2);
            due.is("kind 2 of " + f, x.shown(2, 0, f), Math.max(0, look - 2));
            due.is("kind 3 of " + f, x.shown(3, 0, f), look);
            due.is("warts of " + f, x.shown(0, 1, f), Math.max(0, f - 4));
        }
        x.paint(0, 1);
        due.is("another painter's is not sold", x.shown(3, 0, 9), 9);
        due.is("painted of the other bride", x.paint(3, 1), 0);
        due.is("sold twice", x.shown(3, 0, 9), 0);
        due.is("sold again", x.paint(3, 0), 0);
    }

    private static void worthByLaw(String law, int want) {
        NinePortraits x = Due.court("bf4w3y7;ps6a8");
        x.months(5);
        Due.law(x, law);
        due.is("by <" + law + ">", x.shown(0, 0, 4), want);
    }

    private static void laws() {
        worthByLaw("y:f", 4);
        worthByLaw("y:w", 3);
        worthByLaw("y:y", 7);
        worthByLaw("y:s", 6);
        worthByLaw("y:a", 8);
        worthByLaw("y:m", 5);
        worthByLaw("y:8-2-1", 5);
        worthByLaw("y:8-2*3", 2);
        worthByLaw("y:2+3*2-1*4", 4);
        worthByLaw("y:8/2/2", 2);
        worthByLaw("y:8/2*2", 8);
        worthByLaw("y:9-[3-1]", 7);
        worthByLaw("y:[9-3]-1", 5);
        worthByLaw("y:7/2", 3);
        worthByLaw("y:[0-7]/2+5", 2);
        worthByLaw("y:5/0+3", 3);
        worthByLaw("y:12", 9);
        worthByLaw("y:1-3", 0);
        worthByLaw("y:9999*9999/1000/1000+4", 5);
        worthByLaw("y:[0-9999]*9999/1000/1000+4", 3);
        worthByLaw("y:[9999*100+9999-9999*100]/20", 5);
        worthByLaw("y:[[0-9999]*100-9999+9999*100]/20+9", 4);
        worthByLaw("y:1=1?6;y:7", 6);
        worthByLaw("y:1=2?6;y:7", 7);
        worthByLaw("y:1=2?6", 0);
        worthByLaw("y:1=2?6;y:1<2?4;y:7", 4);
        worthByLaw("y:1>2?6;y:2>1?5", 5);
        worthByLaw("y:2<2?6;y:2>2?5;y:1", 1);
        worthByLaw("y:3;y:4", 3);
        worthByLaw("y:!1=1?6;y:7", 7);
        worthByLaw("y:!!1=1?6;y:7", 6);
        worthByLaw("y:!1=2&1=1?6;y:7", 6);
        worthByLaw("y:!(1=2&1=1)?6;y:7", 6);
        worthByLaw("y:!1=1&1=2|1=1?6;y:7", 6);
        worthByLaw("y:1=1|1=2&1=2?6;y:7", 6);
        worthByLaw("y:(1=1|1=2)&1=2?6;y:7", 7);
        worthByLaw("y:1=2&1=1|1=1?6;y:7", 6);
        worthByLaw("y:1=2|1=2|1=1?6;y:7", 6);
        worthByLaw("y:f+w=y&s<a?6;y:7", 6);
        worthByLaw("y:[f+w]*2=14&s+2>a-1?6;y:7", 6);
        worthByLaw("y:0=[0-1]/2?6;y:7", 6);
        worthByLaw(" y : f < 5 & w > 2 ? [ f + 1 ] * 1 ; y : 0 ", 5);
    }

    private static void bounds() {
        NinePortraits x = Due.court("b;b;p");
        due.none("rule(3)", x.rule(3));
        due.none("rule(-1)", x.rule(-1));
        due.refusesBride(x, 2, 0);
        due.refusesBride(x, -1, 0);
        due.refusesBride(x, 0, 6);
        due.refusesBride(x, 0, -1);
        due.refusesBride(x, Integer.MAX_VALUE, Integer.MIN_VALUE);
        due.none("painter(1, 0)", x.painter(1, 0));
        due.none("painter(-1, 0)", x.painter(-1, 0));
        due.none("painter(0, 4)", x.painter(0, 4));
        due.none("painter(0, -1)", x.painter(0, -1));
        due.none("flattery(1, 0)", x.flattery(1, 0));
        due.none("flattery(0, 2)", x.flattery(0, 2));
        due.none("flattery(-1, 0)", x.flattery(-1, 0));
        due.none("flattery(0, -1)", x.flattery(0, -1));
        due.none("shown(1, 0, 0)", x.shown(1, 0, 0));
        due.none("shown(0, 2, 0)", x.shown(0, 2, 0));
        due.none("shown(0, 0, 10)", x.shown(0, 0, 10));
        due.none("shown(0, 0, -1)", x.shown(0, 0, -1));
        due.is("shown(0, 1, 9)", x.shown(0, 1, 9), 9);
    }
}
