/** Promises 1 to 49: what is answered at and beyond each bound, which STATUS counts it, and that nothing else is changed. */
final class RefusedTest {
    private static final Due due = new Due("RefusedTest");
    private static final int NONE = -1;
    private static final int HIDDEN = -1000000;
    private static final int LEAST = Integer.MIN_VALUE;
    private static final int MOST = Integer.MAX_VALUE;
    private static final int[] NO_BRIDES = {-1, 2, 6, 31, 32, LEAST, MOST};
    private static final int[] NO_PAINTERS = {-1, 3, 5, 32, LEAST, MOST};

    private static final Twin NEW = new Twin(due, "no court", x -> {
    });
    /** Two brides, three painters; something of each sort has happened, and bytes are on the tape. */
    private static final Twin MIDST = new Twin(due, "in the midst", RefusedTest::midst);
    /** Twenty portraits, letters and shoes of all, one wed, fear and pay at nine, little in the purse, four laws. */
    private static final Twin FULL = new Twin(due, "full", RefusedTest::full);
    private static final Twin LAST = new Twin(due, "in month 999", x -> {
        Due.feed(x, "b;b;p;p;p");
        x.text(0);
        x.image();
        for (int i = 0; i < 16; i++) {
            x.months(60);
        }
        x.months(39);
    });

    private static void midst(NinePortraits x) {
        Due.feed(x, "sp60;bf3w0y4;bf8d35;pf1a0;pf2k1;pf0k3");
        x.text(0);
        Due.feed(x, "y:f+y-m");
        x.text(1);
        Due.feed(x, "y:w");
        x.text(1);
        x.law(0);
        x.bribes(4);
        x.paint(0, 0);
        x.paint(1, 1);
        x.letter(0);
        x.months(2);
        x.image();
        x.pay(0, 3);
        x.wed(1);
        x.shoe(1);
        x.paint(9, 9);
        Due.feed(x, "b;p;p");
    }

    private static void full(NinePortraits x) {
        Due.feed(x, "sp9;bf3y9;bf4y0d9;pf0a9;pf1;pf0k3");
        x.text(0);
        for (int i = 0; i < 20; i++) {
            x.paint(i % 2 * 2, i % 2);
        }
        x.letter(0);
        x.letter(1);
        x.shoe(0);
        x.shoe(1);
        x.wed(1);
        x.months(1);
        x.pay(0, -4);
        x.pay(0, 4);
        for (int i = 0; i < 6; i++) {
            x.threaten(1);
        }
        x.threaten(2);
        x.undo();
        x.image();
        x.months(1);
        x.undo();
        // The fifth stays on the tape.
        for (int i = 0; i < 5; i++) {
            Due.feed(x, "y:f");
            x.text(1);
        }
    }

    public static void main(String[] args) {
        feed();
        end();
        bytesBehindTheEnd();
        fault();
        text();
        sortsOfATape();
        readingIsNoTaking();
        anotherCourt();
        rule();
        bride();
        painter();
        law();
        flatteryAndShown();
        paint();
        pay();
        threaten();
        letterAndShoe();
        wed();
        annul();
        months();
        bribes();
        decades();
        status();
        undo();
        portrait();
        fitsNextApart();
        beliefLikelySure();
        worth();
        chooses();
        game();
        rests();
        truth();
        cheapest();
        looks();
        whose();
        heads();
        matched();
        most();
        seenAndRivals();
        saves();
        affordsAndTold();
        imageAndBack();
        count();
        due.finish();
    }

    private static Twin withTape(String text) {
        return new Twin(due, "with <" + text + ">", x -> {
            Due.feed(x, "b;b;p");
            x.text(0);
            Due.feed(x, text);
        });
    }

    private static void feed() {
        Twin all = withTape("b;p" + " ".repeat(237));
        all.answers("feed of a byte", x -> x.feed(0, 0, 0, 0, 'p'), NONE);
        all.answers("feed of the highest byte", x -> x.feed(0x20000000, 0, 0, 0, 0), NONE);
        all.answers("feed of twenty", x -> x.feed(-1, -1, -1, -1, -1), NONE);
        all.answers("feed of nothing", x -> x.feed(0, 0, 0, 0, 0), 240);
        Twin almost = withTape("b;p" + " ".repeat(236));
        almost.answers("feed of two", x -> x.feed('p' << 24, 0, 0, 0, 'p'), NONE);
        almost.answers("feed of nothing", x -> x.feed(0, 0, 0, 0, 0), 239);
        NinePortraits x = new NinePortraits();
        Due.feed(x, " ".repeat(239));
        due.is("the 240th", x.feed(0, 0, 0x2000, 0, 0), 240);
        due.none("the 241st", x.feed(0, 0, 0x2000, 0, 0));
        due.is("the tape is as it was", x.count(3), 240);
        NinePortraits y = new NinePortraits();
        due.is("no byte", y.feed(0, 0, 0, 0, 0), 0);
        due.is("one byte each", y.feed(1, 1 << 8, 1 << 16, 1 << 24, -1 << 24), 5);
        due.is("twenty", y.feed(-1, -1, -1, -1, -1), 25);
        NinePortraits z = new NinePortraits();
        due.is("the highest first", z.feed(0x623b7020, 0x20202020, 0, 0, 0x3b733b62), 12);
        due.is("in their order", z.fault(0), -1);
        due.is("two brides", z.text(0), 2);
    }

    private static void end() {
        for (int n : new int[] {-1, LEAST, 4, 5, 240, MOST}) {
            withTape("b;p").answers("end(" + n + ")", false, x -> x.end(n));
        }
        withTape("").answers("end(1)", false, x -> x.end(1));
        withTape("").answers("end(0)", true, x -> x.end(0));
        withTape("b;p").answers("end(3)", true, x -> x.end(3));
        NinePortraits x = new NinePortraits();
        Due.feed(x, "b;p;x");
        due.is("end(4)", x.end(4), true);
        due.is("the first four alone", x.fault(0) * 10 + x.count(3), 44);
        due.is("end(5)", x.end(5), false);
        due.is("end(3)", x.end(3), true);
        due.is("the first three alone", x.fault(0), -1);
        due.is("end(0)", x.end(0), true);
        due.is("nothing", x.count(3), 0);
        due.is("feed goes on there", Due.feed(x, "b"), 1);
    }

    /** Bytes behind the end are not there, whatever they were. */
    private static void bytesBehindTheEnd() {
        String[] texts = {"b   ", "b;p 1", "b;pf1234", "b;pf ", "y:f+1", "y:f   ", "y:1234", "y:1;y"};
        for (String text : texts) {
            for (int n = 0; n <= text.length(); n++) {
                NinePortraits x = new NinePortraits();
                NinePortraits y = new NinePortraits();
                Due.feed(x, text);
                x.end(n);
                Due.feed(y, text.substring(0, n));
                due.is("fault(0) of " + n + " of <" + text + ">", x.fault(0), y.fault(0));
                due.is("fault(1) of " + n + " of <" + text + ">", x.fault(1), y.fault(1));
                due.is("text(1) of " + n + " of <" + text + ">", x.text(1), y.text(1));
                due.is("text(0) of " + n + " of <" + text + ">", x.text(0), y.text(0));
            }
        }
        NinePortraits z = new NinePortraits();
        Due.feed(z, "b  ");
        z.end(1);
        due.is("no blank behind the end", z.fault(0), 1);
        Due.feed(z, ";pf1");
        due.is("a court", z.text(0), 1);
        due.is("a fee of one digit", z.painter(0, 1), 1);
        due.none("it is empty then", z.text(0));
        due.is("a byte of another text", Due.feed(z, "p"), 1);
        due.is("alone", z.fault(0), 1);
    }

    private static void fault() {
        for (int sort : new int[] {-1, -2, 2, LEAST, MOST}) {
            NEW.answers("fault(" + sort + ")", x -> x.fault(sort), -2);
            MIDST.answers("fault(" + sort + ")", x -> x.fault(sort), -2);
        }
        NEW.answers("fault(0)", x -> x.fault(0), 0);
        NEW.answers("fault(1)", x -> x.fault(1), 0);
        MIDST.answers("fault(0)", x -> x.fault(0), NONE);
        MIDST.answers("fault(1)", x -> x.fault(1), 0);
        FULL.answers("fault(1)", x -> x.fault(1), NONE);
        FULL.answers("fault(0)", x -> x.fault(0), 0);
    }

    private static void text() {
        for (int sort : new int[] {-1, -2, 2, LEAST, MOST}) {
            NEW.answers("text(" + sort + ")", x -> x.text(sort), NONE);
            MIDST.answers("text(" + sort + ")", x -> x.text(sort), NONE);
        }
        NEW.answers("text(0) of nothing", x -> x.text(0), NONE);
        NEW.answers("text(1) of nothing", x -> x.text(1), NONE);
        MIDST.answers("text(1) of a court", x -> x.text(1), NONE);
        FULL.answers("text(0) of a law", x -> x.text(0), NONE);
        Twin four = new Twin(due, "four laws", x -> {
            for (int i = 0; i < 5; i++) {
                Due.feed(x, "y:f");
                due.is("a law", x.text(1), i < 4 ? i : -1);
            }
        });
        four.answers("text(1), a fifth", x -> x.text(1), NONE);
        for (String wrong : new String[] {"b;p;", "b;px", "b", "p", "bf10;p", "bf999;p", "b;p;s;s"}) {
            Twin spoilt = new Twin(due, "with <" + wrong + ">", x -> {
                midst(x);
                x.end(0);
                Due.feed(x, wrong);
            });
            spoilt.answers("text(0)", x -> x.text(0), NONE);
            spoilt.answers("text(1)", x -> x.text(1), NONE);
        }
    }

    private static void sortsOfATape() {
        for (int sort : new int[] {-1, 2, 3, LEAST, MOST}) {
            withTape("y:f").answers("text(" + sort + ")", x -> x.text(sort), NONE);
            withTape("b;p").answers("text(" + sort + ")", x -> x.text(sort), NONE);
        }
        withTape("y:f").answers("text(0)", x -> x.text(0), NONE);
        withTape("b;p").answers("text(1)", x -> x.text(1), NONE);
    }

    /** A tape that is read, but not taken, changes nothing of the COURT: all acts and answers are as without. */
    private static void readingIsNoTaking() {
        String text = "sp60f4d5;bf3w0y4d50;bf8d35w5y1;bf6d19;ps7f3a7;pf2k1s2;pf0k3;pf6a1k2";
        String[] others = {"sp1f9d0;bf9w9y9d0;bf0d99w0y9;bf1d1;ps1f9a1k3;pf9k0s9;pf9k1;pf0a9k3;", "b;", "p;",
            "sf1;bf1;bf2;bf3;bf4;bf5;bf6;pf1;pf2;pf3;pf4;pf5;"};
        for (String other : others) {
            NinePortraits plain = Due.court(text);
            NinePortraits read = Due.court(text);
            for (int act = 0; act < 12; act++) {
                Due.feed(read, other);
                due.is("fault(0) of <" + other + ">", read.fault(0), other.length());
                due.none("text(0) of <" + other + ">", read.text(0));
                due.is("act " + act + " behind <" + other + ">", did(read, act), did(plain, act));
                read.end(0);
                if (act % 4 == 3) {
                    Due.feed(read, other);
                    read.fault(0);
                    due.is("answers behind act " + act + " and <" + other + ">",
                        Twin.answers(read).equals(Twin.answers(plain)), true);
                    read.end(0);
                }
            }
        }
        NinePortraits none = new NinePortraits();
        Due.feed(none, "b;p");
        due.is("no fault", none.fault(0), NONE);
        due.none("but no court", none.rule(0));
        due.none("but no painter", none.painter(0, 0));
        due.refusesBride(none, 0, 0);
        due.is("nothing", none.count(0) + none.count(1), 0);
    }

    private static int did(NinePortraits x, int act) {
        switch (act) {
            case 0:
                return x.paint(0, 0);
            case 1:
                return x.paint(1, 1);
            case 2:
                return x.paint(3, 2);
            case 3:
                return x.letter(1);
            case 4:
                return x.shoe(2);
            case 5:
                return x.wed(0);
            case 6:
                return x.annul();
            case 7:
                return x.decades(5, 99L);
            case 8:
                return x.paint(2, 0);
            case 9:
                return x.threaten(3);
            case 10:
                return x.pay(2, 5);
            default:
                return x.undo();
        }
    }

    /** All that was of another COURT is gone but LAWS, which holds, BRIBES, STATUS. */
    private static void anotherCourt() {
        String[] texts = {"sp60;bf3w0y4;bf8d35;pf1a0;pf2k1;pf0k3", "b;p", "p;p;p;p;p;b;b;b;b;b;b"};
        for (String text : texts) {
            for (int way = 0; way < 2; way++) {
                NinePortraits x = new NinePortraits();
                if (way == 0) {
                    midst(x);
                } else {
                    full(x);
                }
                int laws = x.count(2);
                int holds = x.count(4);
                int bribes = x.count(8);
                int refused = x.status(0);
                x.end(0);
                Due.feed(x, text);
                NinePortraits fresh = Due.court(text);
                due.is("text(0) of <" + text + ">", x.text(0), fresh.count(0));
                due.is("all is as in a new object", Due.all(x).equals(Due.all(fresh)), true);
                due.is("the tape is empty", x.count(3), 0);
                due.is("MONTH 0", x.count(5), 0);
                due.none("no act of another", x.undo());
                due.none("no image of another", x.back());
                due.is("laws", x.count(2), laws);
                due.is("which holds", x.count(4), holds);
                due.is("bribes", x.count(8), bribes);
                due.is("status", x.status(0), refused);
                for (int bride = 0; bride < x.count(0); bride++) {
                    due.is("fits", x.fits(bride), 1023);
                    due.is("seen", x.seen(bride), 0);
                }
            }
        }
    }

    private static void rule() {
        for (int what : new int[] {-1, 3, LEAST, MOST}) {
            NEW.answers("rule(" + what + ")", x -> x.rule(what), NONE);
            MIDST.answers("rule(" + what + ")", x -> x.rule(what), NONE);
        }
        for (int what = 0; what < 3; what++) {
            int one = what;
            NEW.answers("rule(" + what + ")", x -> x.rule(one), NONE);
        }
        int[] want = {59, 5, 3};
        for (int what = 0; what < 3; what++) {
            int one = what;
            MIDST.answers("rule(" + what + ")", x -> x.rule(one), want[what]);
        }
    }

    private static void bride() {
        for (int bride : NO_BRIDES) {
            MIDST.throwsFor(bride, 0);
            MIDST.throwsFor(bride, 5);
            MIDST.throwsFor(bride, 6);
        }
        for (int what : new int[] {-1, 6, LEAST, MOST}) {
            MIDST.throwsFor(0, what);
            MIDST.throwsFor(1, what);
        }
        for (int what = 0; what < 6; what++) {
            NEW.throwsFor(0, what);
        }
        int[][] want = {{3, 20, 0, 7, 1, 0}, {8, 35, 1, 2, 0, 1}};
        for (int bride = 0; bride < 2; bride++) {
            for (int what = 0; what < 6; what++) {
                int one = bride;
                int part = what;
                MIDST.answers("bride(" + bride + ", " + what + ")", x -> x.bride(one, part), want[bride][what]);
            }
        }
    }

    private static void painter() {
        for (int painter : NO_PAINTERS) {
            MIDST.answers("painter(" + painter + ", 0)", x -> x.painter(painter, 0), NONE);
            NEW.answers("painter(" + painter + ", 3)", x -> x.painter(painter, 3), NONE);
        }
        NEW.answers("painter(0, 0)", x -> x.painter(0, 0), NONE);
        for (int what : new int[] {-1, 4, LEAST, MOST}) {
            MIDST.answers("painter(0, " + what + ")", x -> x.painter(0, what), NONE);
            MIDST.answers("painter(2, " + what + ")", x -> x.painter(2, what), NONE);
        }
        int[][] want = {{5, 1, 0, 0}, {5, 2, 3, 1}, {5, 0, 3, 3}};
        for (int painter = 0; painter < 3; painter++) {
            for (int what = 0; what < 4; what++) {
                int one = painter;
                int part = what;
                MIDST.answers("painter(" + painter + ", " + what + ")", x -> x.painter(one, part), want[painter][what]);
            }
        }
    }

    private static void law() {
        for (int law : new int[] {-2, 2, 3, 4, LEAST, MOST}) {
            MIDST.answers("law(" + law + ")", false, x -> x.law(law));
        }
        NEW.answers("law(0)", false, x -> x.law(0));
        NEW.answers("law(NONE)", true, x -> x.law(-1));
        MIDST.answers("law(0), it holds", true, x -> x.law(0));
        FULL.answers("law(4)", false, x -> x.law(4));
        NinePortraits x = new NinePortraits();
        full(x);
        due.is("law(3)", x.law(3), true);
        due.is("holds", x.count(4), 3);
        due.is("law(NONE)", x.law(-1), true);
        due.is("none holds", x.count(4), NONE);
    }

    private static void flatteryAndShown() {
        for (int painter : NO_PAINTERS) {
            MIDST.answers("flattery(" + painter + ", 0)", x -> x.flattery(painter, 0), NONE);
            MIDST.answers("shown(" + painter + ", 0, 0)", x -> x.shown(painter, 0, 0), NONE);
        }
        for (int bride : NO_BRIDES) {
            MIDST.answers("flattery(0, " + bride + ")", x -> x.flattery(0, bride), NONE);
            MIDST.answers("shown(0, " + bride + ", 0)", x -> x.shown(0, bride, 0), NONE);
        }
        for (int f : new int[] {-1, 10, LEAST, MOST}) {
            MIDST.answers("shown(0, 0, " + f + ")", x -> x.shown(0, 0, f), NONE);
            MIDST.answers("shown(2, 0, " + f + ")", x -> x.shown(2, 0, f), NONE);
        }
        NEW.answers("flattery(0, 0)", x -> x.flattery(0, 0), NONE);
        NEW.answers("shown(0, 0, 0)", x -> x.shown(0, 0, 0), NONE);
        MIDST.answers("flattery(0, 0)", x -> x.flattery(0, 0), 7);
        MIDST.answers("flattery(2, 1)", x -> x.flattery(2, 1), 1);
        MIDST.answers("shown(0, 1, 0)", x -> x.shown(0, 1, 0), 0);
        MIDST.answers("shown(2, 1, 9)", x -> x.shown(2, 1, 9), 9);
    }

    private static void paint() {
        NEW.refuses("paint(0, 0)", x -> x.paint(0, 0), NONE, 0);
        for (int painter : NO_PAINTERS) {
            MIDST.refuses("paint(" + painter + ", 0)", x -> x.paint(painter, 0), NONE, 0);
            FULL.refuses("paint(" + painter + ", 0)", x -> x.paint(painter, 0), NONE, 0);
        }
        for (int bride : NO_BRIDES) {
            MIDST.refuses("paint(0, " + bride + ")", x -> x.paint(0, bride), NONE, 0);
            FULL.refuses("paint(1, " + bride + ")", x -> x.paint(1, bride), NONE, 0);
        }
        FULL.refuses("paint(0, 0), twenty", x -> x.paint(0, 0), NONE, 4);
        FULL.refuses("paint(2, 1), twenty", x -> x.paint(2, 1), NONE, 4);
        Twin poor = new Twin(due, "poor", x -> {
            Due.feed(x, "sp5;b;pf5;pf6");
            x.text(0);
        });
        poor.refuses("paint(1, 0), too little", x -> x.paint(1, 0), NONE, 2);
        NinePortraits rich = Due.court("sp5;b;pf5;pf6");
        due.is("just enough", rich.paint(0, 0) >= 0, true);
        Twin both = new Twin(due, "poor and full", x -> {
            Due.feed(x, "sp0;b;pf0;pf1");
            x.text(0);
            for (int i = 0; i < 20; i++) {
                x.paint(0, 0);
            }
        });
        both.refuses("paint(1, 0), too little and twenty", x -> x.paint(1, 0), NONE, 2);
        both.refuses("paint(0, 0), twenty", x -> x.paint(0, 0), NONE, 4);
    }

    private static void pay() {
        NEW.refuses("pay(0, 1)", x -> x.pay(0, 1), NONE, 0);
        NEW.refuses("pay(0, 0)", x -> x.pay(0, 0), NONE, 0);
        for (int bride : NO_BRIDES) {
            MIDST.refuses("pay(" + bride + ", 1)", x -> x.pay(bride, 1), NONE, 0);
            MIDST.refuses("pay(" + bride + ", 0)", x -> x.pay(bride, 0), NONE, 0);
        }
        for (int n : new int[] {0, 10, -10, LEAST, MOST, 3, 9, -8, -9}) {
            MIDST.refuses("pay(0, " + n + ")", x -> x.pay(0, n), NONE, 1);
        }
        for (int n : new int[] {0, 10, -10, LEAST, MOST, 8, 9, -3, -9}) {
            MIDST.refuses("pay(1, " + n + ")", x -> x.pay(1, n), NONE, 1);
        }
        FULL.refuses("pay(0, 1) at nine", x -> x.pay(0, 1), NONE, 1);
        FULL.refuses("pay(1, -1) at 0", x -> x.pay(1, -1), NONE, 1);
    }

    private static void threaten() {
        NEW.refuses("threaten(0)", x -> x.threaten(0), NONE, 0);
        for (int painter : NO_PAINTERS) {
            MIDST.refuses("threaten(" + painter + ")", x -> x.threaten(painter), NONE, 0);
            FULL.refuses("threaten(" + painter + ")", x -> x.threaten(painter), NONE, 0);
        }
        FULL.refuses("threaten(0) at nine", x -> x.threaten(0), NONE, 1);
        FULL.refuses("threaten(1) at nine", x -> x.threaten(1), NONE, 1);
    }

    private static void letterAndShoe() {
        NEW.refuses("letter(0)", x -> x.letter(0), NONE, 0);
        NEW.refuses("shoe(0)", x -> x.shoe(0), NONE, 0);
        for (int bride : NO_BRIDES) {
            MIDST.refuses("letter(" + bride + ")", x -> x.letter(bride), NONE, 0);
            MIDST.refuses("shoe(" + bride + ")", x -> x.shoe(bride), NONE, 0);
            FULL.refuses("letter(" + bride + ")", x -> x.letter(bride), NONE, 0);
            FULL.refuses("shoe(" + bride + ")", x -> x.shoe(bride), NONE, 0);
        }
        MIDST.refuses("letter(0), it was", x -> x.letter(0), NONE, 1);
        MIDST.refuses("shoe(1), it was", x -> x.shoe(1), NONE, 1);
        for (int bride = 0; bride < 2; bride++) {
            int one = bride;
            FULL.refuses("letter(" + bride + "), it was", x -> x.letter(one), NONE, 1);
            FULL.refuses("shoe(" + bride + "), it was", x -> x.shoe(one), NONE, 1);
        }
        Twin poor = new Twin(due, "with 1", x -> {
            Due.feed(x, "sp1;b;b;p");
            x.text(0);
        });
        poor.refuses("letter(0), too little", x -> x.letter(0), NONE, 2);
        Twin poorer = new Twin(due, "with nothing", x -> {
            Due.feed(x, "sp3;b;b;p");
            x.text(0);
            x.letter(0);
            x.shoe(0);
        });
        poorer.refuses("letter(1), too little", x -> x.letter(1), NONE, 2);
        poorer.refuses("shoe(1), too little", x -> x.shoe(1), NONE, 2);
        poorer.refuses("letter(0), it was and too little", x -> x.letter(0), NONE, 1);
        poorer.refuses("shoe(0), it was and too little", x -> x.shoe(0), NONE, 1);
    }

    private static void wed() {
        NEW.refuses("wed(0)", x -> x.wed(0), NONE, 0);
        for (int bride : NO_BRIDES) {
            MIDST.refuses("wed(" + bride + ")", x -> x.wed(bride), NONE, 0);
            LAST.refuses("wed(" + bride + ")", x -> x.wed(bride), NONE, 0);
        }
        MIDST.refuses("wed(0), one is wed", x -> x.wed(0), NONE, 3);
        MIDST.refuses("wed(1), she is wed", x -> x.wed(1), NONE, 3);
    }

    private static void annul() {
        NEW.refuses("annul()", x -> x.annul(), NONE, 0);
        LAST.refuses("annul(), none is wed", x -> x.annul(), NONE, 3);
        MIDST.refuses("annul(), it is not to be", x -> x.annul(), NONE, 4);
        FULL.refuses("annul(), it is not to be", x -> x.annul(), NONE, 4);
        Twin unseen = new Twin(due, "wed unseen", x -> {
            Due.feed(x, "bf0;p");
            x.text(0);
            x.wed(0);
        });
        unseen.refuses("annul(), no portrait", x -> x.annul(), NONE, 4);
        Twin once = new Twin(due, "annulled", x -> {
            Due.feed(x, "bf0w0y3;pa0");
            x.text(0);
            x.paint(0, 0);
            x.wed(0);
            due.is("by three", x.annul(), 0);
        });
        once.refuses("annul() again", x -> x.annul(), NONE, 3);
    }

    private static void months() {
        for (int n : new int[] {1, 0, 61, -1}) {
            NEW.refuses("months(" + n + ")", x -> x.months(n), NONE, 0);
        }
        for (int n : new int[] {0, 61, -1, LEAST, MOST}) {
            MIDST.refuses("months(" + n + ")", x -> x.months(n), NONE, 1);
            LAST.refuses("months(" + n + ")", x -> x.months(n), NONE, 1);
        }
        LAST.refuses("months(1)", x -> x.months(1), NONE, 4);
        LAST.refuses("months(60)", x -> x.months(60), NONE, 4);
        Twin near = new Twin(due, "in month 960", x -> {
            Due.feed(x, "b;p");
            x.text(0);
            for (int i = 0; i < 16; i++) {
                x.months(60);
            }
        });
        near.refuses("months(40)", x -> x.months(40), NONE, 4);
        near.refuses("months(60)", x -> x.months(60), NONE, 4);
        near.answers("decades(40)", x -> x.decades(40, 1L), NONE);
    }

    private static void bribes() {
        for (int v : new int[] {-1, 10, LEAST, MOST, 4}) {
            MIDST.answers("bribes(" + v + ")", false, x -> x.bribes(v));
        }
        NEW.answers("bribes(0), it is so", false, x -> x.bribes(0));
        NinePortraits x = new NinePortraits();
        for (int v = 9; v >= 0; v--) {
            due.is("bribes(" + v + ")", x.bribes(v), true);
            due.is("count(8)", x.count(8), v);
            due.is("bribes(" + v + ") again", x.bribes(v), false);
        }
    }

    private static void decades() {
        NEW.answers("decades(1)", x -> x.decades(1, 1L), NONE);
        for (int n : new int[] {0, 61, -1, LEAST, MOST}) {
            MIDST.answers("decades(" + n + ")", x -> x.decades(n, 1L), NONE);
            LAST.answers("decades(" + n + ")", x -> x.decades(n, 1L), NONE);
        }
        LAST.answers("decades(1)", x -> x.decades(1, 1L), NONE);
        LAST.answers("decades(60)", x -> x.decades(60, 1L), NONE);
    }

    private static void status() {
        for (int what : new int[] {-1, 5, LEAST, MOST}) {
            NEW.answers("status(" + what + ")", x -> x.status(what), NONE);
            MIDST.answers("status(" + what + ")", x -> x.status(what), NONE);
        }
        for (int what = 0; what < 5; what++) {
            int one = what;
            NEW.answers("status(" + what + ")", x -> x.status(one), 0);
            MIDST.answers("status(" + what + ")", x -> x.status(one), what == 0 ? 1 : 0);
        }
    }

    private static void undo() {
        NEW.answers("undo()", x -> x.undo(), NONE);
        Twin fresh = new Twin(due, "a new court", x -> {
            midst(x);
            x.text(0);
        });
        fresh.answers("undo()", x -> x.undo(), NONE);
        Twin back = new Twin(due, "brought back", x -> {
            midst(x);
            x.back();
        });
        back.answers("undo()", x -> x.undo(), NONE);
    }

    private static void portrait() {
        NEW.answers("portrait(0, 0)", x -> x.portrait(0, 0), NONE);
        for (int i : new int[] {-1, 2, 19, 20, LEAST, MOST}) {
            MIDST.answers("portrait(" + i + ", 0)", x -> x.portrait(i, 0), NONE);
        }
        for (int what : new int[] {-1, 4, LEAST, MOST}) {
            MIDST.answers("portrait(0, " + what + ")", x -> x.portrait(0, what), NONE);
            MIDST.answers("portrait(1, " + what + ")", x -> x.portrait(1, what), NONE);
        }
        FULL.answers("portrait(20, 0)", x -> x.portrait(20, 0), NONE);
        FULL.answers("portrait(19, 1)", x -> x.portrait(19, 1), 0);
        int[][] want = {{1, 1, 8, 0}, {0, 0, 7, 0}};
        for (int i = 0; i < 2; i++) {
            for (int what = 0; what < 4; what++) {
                int place = i;
                int part = what;
                MIDST.answers("portrait(" + i + ", " + what + ")", x -> x.portrait(place, part), want[i][what]);
            }
        }
        LAST.answers("portrait(0, 0)", x -> x.portrait(0, 0), NONE);
    }

    private static void fitsNextApart() {
        for (int bride : NO_BRIDES) {
            MIDST.answers("fits(" + bride + ")", x -> x.fits(bride), NONE);
            MIDST.answers("next(" + bride + ")", x -> x.next(bride), NONE);
            MIDST.answers("apart(" + bride + ")", x -> x.apart(bride), NONE);
        }
        NEW.answers("fits(0)", x -> x.fits(0), NONE);
        NEW.answers("next(0)", x -> x.next(0), NONE);
        NEW.answers("apart(0)", x -> x.apart(0), NONE);
        MIDST.answers("fits(0)", x -> x.fits(0), 31);
        MIDST.answers("fits(1)", x -> x.fits(1), 341);
        MIDST.answers("next(1)", x -> x.next(1), 0);
    }

    private static void beliefLikelySure() {
        for (int bride : NO_BRIDES) {
            MIDST.answers("belief(" + bride + ", 0)", x -> x.belief(bride, 0), NONE);
            MIDST.answers("likely(" + bride + ", 0)", x -> x.likely(bride, 0), NONE);
            MIDST.answers("likely(" + bride + ", 1)", x -> x.likely(bride, 1), NONE);
            MIDST.answers("sure(" + bride + ", 1)", x -> x.sure(bride, 1), NONE);
        }
        NEW.answers("belief(0, 0)", x -> x.belief(0, 0), NONE);
        NEW.answers("likely(0, 0)", x -> x.likely(0, 0), NONE);
        NEW.answers("sure(0, 1)", x -> x.sure(0, 1), NONE);
        for (int f : new int[] {-1, 10, LEAST, MOST}) {
            MIDST.answers("belief(0, " + f + ")", x -> x.belief(0, f), NONE);
        }
        for (int what : new int[] {-1, 2, LEAST, MOST}) {
            MIDST.answers("likely(1, " + what + ")", x -> x.likely(1, what), NONE);
        }
        for (int t : new int[] {0, -1, 1000001, LEAST, MOST}) {
            MIDST.answers("sure(1, " + t + ")", x -> x.sure(1, t), NONE);
        }
        MIDST.answers("sure(1, 1)", x -> x.sure(1, 1), 1);
        MIDST.answers("sure(1, 1000000)", x -> x.sure(1, 1000000), 0);
        LAST.answers("belief(1, 9)", x -> x.belief(1, 9), 100000);
        LAST.answers("belief(1, 0)", x -> x.belief(1, 0), 100000);
    }

    private static void worth() {
        for (int bride : NO_BRIDES) {
            MIDST.answers("worth(" + bride + ", 0)", x -> x.worth(bride, 0), NONE);
        }
        for (int f : new int[] {-1, 10, LEAST, MOST}) {
            MIDST.answers("worth(1, " + f + ")", x -> x.worth(1, f), NONE);
        }
        NEW.answers("worth(0, 0)", x -> x.worth(0, 0), NONE);
        MIDST.answers("worth(1, 0)", x -> x.worth(1, 0), 9);
        MIDST.answers("worth(1, 9)", x -> x.worth(1, 9), 54);
    }

    private static void chooses() {
        for (int what = 0; what < 4; what++) {
            int one = what;
            NEW.answers("chooses(" + what + ")", x -> x.chooses(one), NONE);
        }
        for (int what : new int[] {-1, 4, LEAST, MOST}) {
            NEW.answers("chooses(" + what + ")", x -> x.chooses(what), NONE);
            MIDST.answers("chooses(" + what + ")", x -> x.chooses(what), NONE);
        }
        MIDST.answers("chooses(1)", x -> x.chooses(1), 1);
        MIDST.answers("chooses(2)", x -> x.chooses(2), 1);
    }

    private static void game() {
        NEW.answers("game(0, 1, 0, 0, 0, 0)", x -> x.game(0, 1, 0, 0, 0, 0), HIDDEN);
        for (int bride : NO_BRIDES) {
            MIDST.answers("game of one " + bride, x -> x.game(bride, 1, 0, 0, 0, 0), HIDDEN);
            MIDST.answers("game of the other " + bride, x -> x.game(0, bride, 0, 0, 0, 0), HIDDEN);
            MIDST.answers("game of both " + bride, x -> x.game(bride, bride, 0, 0, 0, 0), HIDDEN);
        }
        for (int painter : NO_PAINTERS) {
            MIDST.answers("game by " + painter, x -> x.game(0, 1, painter, 0, 0, 0), HIDDEN);
        }
        for (int v : new int[] {-1, 10, LEAST, MOST}) {
            MIDST.answers("game, x " + v, x -> x.game(0, 1, 0, v, 0, 0), HIDDEN);
            MIDST.answers("game, y " + v, x -> x.game(0, 1, 0, 0, v, 1), HIDDEN);
        }
        for (int what : new int[] {-1, 2, LEAST, MOST}) {
            MIDST.answers("game, what " + what, x -> x.game(0, 1, 0, 0, 0, what), HIDDEN);
        }
        MIDST.answers("game, alike 0", x -> x.game(0, 0, 0, 0, 0, 0), HIDDEN);
        MIDST.answers("game, alike 1", x -> x.game(1, 1, 0, 0, 0, 1), HIDDEN);
        MIDST.answers("game(0, 1, 2, 9, 9, 0)", x -> x.game(0, 1, 2, 9, 9, 0), -1);
        MIDST.answers("game(1, 0, 2, 0, 0, 1)", x -> x.game(1, 0, 2, 0, 0, 1), 0);
    }

    private static void rests() {
        NEW.answers("rests(0, 1, 0, -1)", x -> x.rests(0, 1, 0, -1), NONE);
        for (int bride : NO_BRIDES) {
            MIDST.answers("rests of one " + bride, x -> x.rests(bride, 1, 0, -1), NONE);
            MIDST.answers("rests of the other " + bride, x -> x.rests(0, bride, 0, -1), NONE);
        }
        for (int painter : NO_PAINTERS) {
            MIDST.answers("rests by " + painter, x -> x.rests(0, 1, painter, -1), NONE);
        }
        MIDST.answers("rests, alike 0", x -> x.rests(0, 0, 0, -1), NONE);
        MIDST.answers("rests, alike 1", x -> x.rests(1, 1, 2, 0), NONE);
        for (int i : new int[] {-2, 100, LEAST, MOST}) {
            MIDST.answers("rests, i " + i, x -> x.rests(0, 1, 0, i), NONE);
        }
    }

    private static void truth() {
        NEW.answers("truth(0, 0)", x -> x.truth(0, 0), NONE);
        for (int painter : NO_PAINTERS) {
            MIDST.answers("truth(" + painter + ", 0)", x -> x.truth(painter, 0), NONE);
        }
        for (int bride : NO_BRIDES) {
            MIDST.answers("truth(0, " + bride + ")", x -> x.truth(0, bride), NONE);
        }
        MIDST.answers("truth(2, 1)", x -> x.truth(2, 1), 0);
    }

    private static void cheapest() {
        NEW.answers("cheapest(1, 0)", x -> x.cheapest(1, 0), NONE);
        NEW.answers("cheapest(0, 0)", x -> x.cheapest(0, 0), NONE);
        for (int set : new int[] {0, 4, 5, 7, 8, 32, 63, 64, -1, LEAST, LEAST + 1, MOST}) {
            MIDST.answers("cheapest(" + set + ", 0)", x -> x.cheapest(set, 0), NONE);
            MIDST.answers("cheapest(" + set + ", 1)", x -> x.cheapest(set, 1), NONE);
        }
        for (int what : new int[] {-1, 2, LEAST, MOST}) {
            MIDST.answers("cheapest(1, " + what + ")", x -> x.cheapest(1, what), NONE);
        }
        MIDST.answers("cheapest(3, 0)", x -> x.cheapest(3, 0), 1);
        MIDST.answers("cheapest(3, 1)", x -> x.cheapest(3, 1), 2);
        Twin few = new Twin(due, "few painters", x -> {
            Due.feed(x, "b;b;b;p;p");
            x.text(0);
        });
        few.answers("cheapest(7, 0)", x -> x.cheapest(7, 0), NONE);
        few.answers("cheapest(7, 1)", x -> x.cheapest(7, 1), NONE);
        few.answers("cheapest(6, 1)", x -> x.cheapest(6, 1), 1);
    }

    private static void looks() {
        NEW.answers("looks(0)", x -> x.looks(0), HIDDEN);
        for (int bride : NO_BRIDES) {
            MIDST.answers("looks(" + bride + ")", x -> x.looks(bride), HIDDEN);
        }
        LAST.answers("looks(0), no portrait", x -> x.looks(0), HIDDEN);
        MIDST.answers("looks(0)", x -> x.looks(0), 4);
        MIDST.answers("looks(1)", x -> x.looks(1), 0);
    }

    private static void whose() {
        NEW.answers("whose(0, 0)", x -> x.whose(0, 0), NONE);
        for (int painter : NO_PAINTERS) {
            MIDST.answers("whose(" + painter + ", 0)", x -> x.whose(painter, 0), NONE);
        }
        for (int v : new int[] {-1, 10, LEAST, MOST}) {
            MIDST.answers("whose(0, " + v + ")", x -> x.whose(0, v), NONE);
        }
        MIDST.answers("whose(0, 8)", x -> x.whose(0, 8), 3);
        MIDST.answers("whose(0, 0)", x -> x.whose(0, 0), 0);
    }

    private static void heads() {
        NEW.answers("heads(0, 0, 0)", x -> x.heads(0, 0, 0), NONE);
        for (int painter : NO_PAINTERS) {
            MIDST.answers("heads(" + painter + ", 1, 1)", x -> x.heads(painter, 1, 1), NONE);
        }
        for (int n : new int[] {-1, 21, LEAST, MOST}) {
            MIDST.answers("heads(0, " + n + ", 1)", x -> x.heads(0, n, 1), NONE);
        }
        for (int chance : new int[] {-1, 101, LEAST, MOST}) {
            MIDST.answers("heads(0, 1, " + chance + ")", x -> x.heads(0, 1, chance), NONE);
        }
        MIDST.answers("heads(0, 20, 100)", x -> x.heads(0, 20, 100), 0);
        MIDST.answers("heads(0, 0, 0)", x -> x.heads(0, 0, 0), 1000000000);
    }

    private static void matched() {
        NEW.answers("matched(0)", x -> x.matched(0), NONE);
        for (int bride : NO_BRIDES) {
            MIDST.answers("matched(" + bride + ")", x -> x.matched(bride), NONE);
        }
        MIDST.answers("matched(0)", x -> x.matched(0), 2);
        MIDST.answers("matched(1)", x -> x.matched(1), 0);
        Twin few = new Twin(due, "one painter", x -> {
            Due.feed(x, "by1;by2;p");
            x.text(0);
        });
        few.answers("matched(0), she has none", x -> x.matched(0), NONE);
        few.answers("matched(1)", x -> x.matched(1), 0);
    }

    private static void most() {
        for (int what = 0; what < 5; what++) {
            int one = what;
            NEW.answers("most(" + what + ")", x -> x.most(one), NONE);
        }
        for (int what : new int[] {-1, 5, LEAST, MOST}) {
            NEW.answers("most(" + what + ")", x -> x.most(what), NONE);
            MIDST.answers("most(" + what + ")", x -> x.most(what), NONE);
        }
        MIDST.answers("most(3)", x -> x.most(3), 2);
        MIDST.answers("most(4)", x -> x.most(4), 4);
    }

    private static void seenAndRivals() {
        NEW.answers("seen(0)", x -> x.seen(0), NONE);
        NEW.answers("rivals(0)", x -> x.rivals(0), NONE);
        for (int bride : NO_BRIDES) {
            MIDST.answers("seen(" + bride + ")", x -> x.seen(bride), NONE);
            MIDST.answers("rivals(" + bride + ")", x -> x.rivals(bride), NONE);
        }
        MIDST.answers("rivals(0)", x -> x.rivals(0), 2);
        MIDST.answers("rivals(1)", x -> x.rivals(1), 0);
        LAST.answers("seen(1)", x -> x.seen(1), 0);
    }

    private static void saves() {
        NEW.answers("saves(1)", x -> x.saves(1), NONE);
        for (int n : new int[] {0, -1, 1000, LEAST, MOST}) {
            MIDST.answers("saves(" + n + ")", x -> x.saves(n), NONE);
        }
        MIDST.answers("saves(1)", x -> x.saves(1), 0);
        MIDST.answers("saves(59)", x -> x.saves(59), 0);
        MIDST.answers("saves(60)", x -> x.saves(60), 1);
        MIDST.answers("saves(999)", x -> x.saves(999), 940);
        LAST.answers("saves(999)", x -> x.saves(999), 0);
    }

    private static void affordsAndTold() {
        NEW.answers("affords(0)", x -> x.affords(0), NONE);
        NEW.answers("told(0)", x -> x.told(0), HIDDEN);
        for (int painter : NO_PAINTERS) {
            MIDST.answers("affords(" + painter + ")", x -> x.affords(painter), NONE);
            MIDST.answers("told(" + painter + ")", x -> x.told(painter), HIDDEN);
        }
        MIDST.answers("told(2), none of its hand", x -> x.told(2), HIDDEN);
        MIDST.answers("told(1)", x -> x.told(1), 0);
        MIDST.answers("affords(2)", x -> x.affords(2), 18);
        FULL.answers("affords(2)", x -> x.affords(2), 0);
    }

    private static void imageAndBack() {
        NEW.answers("image()", x -> x.image(), NONE);
        NEW.answers("back()", x -> x.back(), NONE);
        Twin fresh = new Twin(due, "a new court", x -> {
            midst(x);
            x.text(0);
            x.months(3);
        });
        fresh.answers("back()", x -> x.back(), NONE);
        Twin lawful = new Twin(due, "with a law more", x -> {
            midst(x);
            x.end(0);
            Due.feed(x, "y:1");
            x.text(1);
        });
        lawful.answers("law(2) is no more", false, x -> x.law(3));
        NinePortraits y = new NinePortraits();
        midst(y);
        due.is("of this court", y.back(), 2);
    }

    private static void count() {
        int[] empty = {0, 0, 0, 0, NONE, 0, NONE, 0, 0, 0};
        int[] want = {2, 3, 2, 5, 0, 2, 1, 2, 4, 8};
        for (int what = 0; what < 10; what++) {
            int one = what;
            NEW.answers("count(" + what + ")", x -> x.count(one), empty[what]);
            MIDST.answers("count(" + what + ")", x -> x.count(one), want[what]);
        }
        for (int what : new int[] {-1, 10, LEAST, MOST}) {
            NEW.answers("count(" + what + ")", x -> x.count(what), HIDDEN);
            MIDST.answers("count(" + what + ")", x -> x.count(what), HIDDEN);
        }
    }
}
