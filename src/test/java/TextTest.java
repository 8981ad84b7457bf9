/** Promises 1 to 5 and 9: a new object, the tape, faults, texts, which law holds. */
final class TextTest {
    private static final Due due = new Due("TextTest");

    public static void main(String[] args) {
        newObject();
        tape();
        courtFaults();
        lawFaults();
        nesting();
        courtTexts();
        lawTexts();
        due.finish();
    }

    private static void newObject() {
        NinePortraits x = new NinePortraits();
        int[] counts = {0, 0, 0, 0, -1, 0, -1, 0, 0, 0};
        for (int what = 0; what < counts.length; what++) {
            due.is("new count(" + what + ")", x.count(what), counts[what]);
        }
        due.refusesBride(x, 0, 0);
        for (int what = 0; what < 5; what++) {
            due.is("new status", x.status(what), 0);
        }
        due.none("new painter", x.painter(0, 0));
        due.none("new rule", x.rule(0));
        due.none("new portrait", x.portrait(0, 0));
        due.none("new worth", x.worth(0, 0));
        due.none("new image", x.image());
    }

    private static void tape() {
        NinePortraits x = new NinePortraits();
        due.is("feed of nothing", x.feed(0, 0, 0, 0, 0), 0);
        due.is("zeros are left out", x.feed(0x62003b00, 0x00000070, 0, 0, 0), 3);
        due.is("b;p", x.fault(0), -1);
        due.is("highest first, as no sign", x.feed(0xff000000, 0, 0, 0, 0), 4);
        due.is("b;p and 255", x.fault(0), 3);
        due.is("end below", x.end(-1), false);
        due.is("end above", x.end(5), false);
        due.is("still four", x.count(3), 4);
        due.is("end at length", x.end(4), true);
        due.is("end(3)", x.end(3), true);
        due.is("count after end", x.count(3), 3);
        due.is("b;p again", x.fault(0), -1);
        due.is("end(0)", x.end(0), true);
        due.is("end(0) of an empty tape", x.end(0), true);
        due.is("end of the least", x.end(Integer.MIN_VALUE), false);
        for (int i = 1; i <= 12; i++) {
            due.is("feed " + i, x.feed(0x20202020, 0x20202020, 0x20202020, 0x20202020, 0x20202020), 20 * i);
        }
        due.none("a byte beyond 240", x.feed(0, 0, 0, 0, 1));
        due.is("240 stay", x.count(3), 240);
        due.is("no byte beyond 240", x.feed(0, 0, 0, 0, 0), 240);
        due.is("end(230)", x.end(230), true);
        due.none("eleven more", x.feed(0x20202020, 0x20202020, 0x20202000, 0, 0));
        due.is("ten more", x.feed(0x20202020, 0x20202020, 0x20200000, 0, 0), 240);
        due.is("blanks alone end too early", x.fault(0), 240);
        due.is("blanks alone as a law", x.fault(1), 240);
    }

    private static void courtFault(String text, int want) {
        NinePortraits x = new NinePortraits();
        Due.feed(x, text);
        due.is("fault(0) of <" + text + ">", x.fault(0), want);
        due.is("the tape of <" + text + "> stays", x.count(3), text.length());
        int brides = 0;
        for (String clause : text.split(";")) {
            brides += clause.trim().startsWith("b") ? 1 : 0;
        }
        due.is("text(0) of <" + text + ">", x.text(0), want == -1 ? brides : -1);
        due.is("then the tape has", x.count(3), want == -1 ? 0 : text.length());
    }

    private static void courtFaults() {
        courtFault("", 0);
        courtFault("b;p", -1);
        courtFault("  p  ;  b  ", -1);
        courtFault("b", 1);
        courtFault("b ", 2);
        courtFault("p", 1);
        courtFault("p;s", 3);
        courtFault("b;", 2);
        courtFault("b;p;", 4);
        courtFault("b;;p", 2);
        courtFault(";b;p", 0);
        courtFault("s", 1);
        courtFault("s;s", 2);
        courtFault("b;p;s;b;s", 8);
        courtFault("sp99f9d9;bf9d99w9y9;ps9f30a9k3", -1);
        courtFault("sp00f00d00;bf00d00w00y00;ps00f00a00k00", -1);
        courtFault("sf09;bf09;pk03", -1);
        courtFault("sf10;b;p", 3);
        courtFault("sd10;b;p", 3);
        courtFault("bw10;p", 3);
        courtFault("ps10", 3);
        courtFault("pa10", 3);
        courtFault("pk4", 2);
        courtFault("pk41", 3);
        courtFault("pk04", 3);
        courtFault("pf31;b", 3);
        courtFault("pf99 ", 3);
        courtFault("pf310;b", 4);
        courtFault("bf001", 4);
        courtFault("bf100", 4);
        courtFault("bd999;p", 4);
        courtFault("bd1 2;p", 4);
        courtFault("bd", 2);
        courtFault("bd ", 3);
        courtFault("bd;p", 2);
        courtFault("bdf1;p", 2);
        courtFault("bf1f1;p", 3);
        courtFault("bf1d2f3;p", 5);
        courtFault("bs1;p", 1);
        courtFault("bk1;p", 1);
        courtFault("ps1d1", 3);
        courtFault("sw1", 1);
        courtFault("b1;p", 1);
        courtFault("B;p", 0);
        courtFault("b\tf1;p", 1);
        courtFault("b;b;b;b;b;b;p", -1);
        courtFault("b;b;b;b;b;b; b;p", 13);
        courtFault("p;p;p;p;p;b", -1);
        courtFault("p;p;p;p;p;p;b", 10);
        courtFault("b;b;p:", 5);
    }

    private static void lawFault(String text, int want) {
        NinePortraits x = new NinePortraits();
        Due.feed(x, text);
        due.is("fault(1) of <" + text + ">", x.fault(1), want);
        due.is("the tape of <" + text + "> stays", x.count(3), text.length());
        due.is("text(1) of <" + text + ">", x.text(1), want == -1 ? 0 : -1);
        due.is("laws then", x.count(2), want == -1 ? 1 : 0);
        due.is("then the tape has", x.count(3), want == -1 ? 0 : text.length());
    }

    private static void lawFaults() {
        lawFault("", 0);
        lawFault("y", 1);
        lawFault("y:", 2);
        lawFault(":f", 0);
        lawFault("f", 0);
        lawFault("y f", 2);
        lawFault("y:f", -1);
        lawFault(" y : f ", -1);
        lawFault("y:f;", 4);
        lawFault("y:f;;y:f", 4);
        lawFault("y:f;y:w;y:y;y:s;y:a;y:m", -1);
        lawFault("y:d", 2);
        lawFault("y:9999", -1);
        lawFault("y:10000", 6);
        lawFault("y:00000", 6);
        lawFault("y:1 2", 4);
        lawFault("y:-1", 2);
        lawFault("y:f+", 4);
        lawFault("y:f+-1", 4);
        lawFault("y:f*w/y", -1);
        lawFault("y:f w", 4);
        lawFault("y:[f]", -1);
        lawFault("y:[f", 4);
        lawFault("y:[f)", 4);
        lawFault("y:[f=1]", 4);
        lawFault("y:[]", 3);
        lawFault("y:f=1?f", -1);
        lawFault("y:f=1", 5);
        lawFault("y:f=1;y:f", 5);
        lawFault("y:f=1?", 6);
        lawFault("y:f=1?f?f", 7);
        lawFault("y:f=1=1?f", 5);
        lawFault("y:f?f", 3);
        lawFault("y:f>=1?f", 4);
        lawFault("y:f<1&w>2|y=3?f", -1);
        lawFault("y:f<1&?f", 6);
        lawFault("y:f<1|?f", 6);
        lawFault("y:f&w=1?f", 3);
        lawFault("y:(f=1)?f", -1);
        lawFault("y:(f=1?f", 6);
        lawFault("y:(f)?f", 4);
        lawFault("y:(f=1)+1", 7);
        lawFault("y:(f=1)=1", 7);
        lawFault("y:(f=1)", 7);
        lawFault("y:!f=1?f", -1);
        lawFault("y:!f?f", 4);
        lawFault("y:!(f=1&!w=2)|[s]*2>a?m", -1);
        lawFault("y:f=!1?f", 4);
        lawFault("y:f=(1)?f", 4);
        lawFault("y:f=1&(w=1|y=2)?f", -1);
        lawFault("y:f=1)?f", 5);
        lawFault("y:f]", 3);
        lawFault("y:f=1?(f)", 6);
        lawFault("y:f=1?!f", 6);
        lawFault("y:f\u00e9", 3);
    }

    private static void nesting() {
        lawFault("y:[[[[[[f]]]]]]", -1);
        lawFault("y:[[[[[[[f]]]]]]]", 8);
        lawFault("y:[[[[[[f]]]]]]+[[[[[[f]]]]]]", -1);
        lawFault("y:!!!!!!f=1?f", -1);
        lawFault("y:!!!!!!!f=1?f", 8);
        lawFault("y:!!!!!!(f=1)?f", 8);
        lawFault("y:!!!!!![f]=1?f", 8);
        lawFault("y:!!!!!!f=[1]?f", 10);
        lawFault("y:!!!!!!f=1&[f]=1?f", -1);
        lawFault("y:((((((f=1))))))?f", -1);
        lawFault("y:(((((((f=1)))))))?f", 8);
        lawFault("y:(!(!([f]=1)))?[[[[[[1]]]]]]", -1);
        lawFault("y:(!(!([[f]]=1)))?f", 8);
        lawFault("y:(f=1&!!!!!w=1)?f", -1);
        lawFault("y:(f=1&!!!!!!w=1)?f", 12);
    }

    private static void courtTexts() {
        NinePortraits x = new NinePortraits();
        due.none("no such sort", x.text(2));
        due.none("no such sort", x.text(-1));
        due.is("no such sort", x.fault(-1), -2);
        due.is("no such sort", x.fault(2), -2);
        due.none("an empty tape", x.text(0));
        due.none("an empty tape", x.text(1));
        Due.feed(x, "b;b;p");
        due.none("no such sort", x.text(5));
        due.none("no law", x.text(1));
        due.is("the tape stays", x.count(3), 5);
        due.is("two brides", x.text(0), 2);
        due.is("the tape is empty", x.count(3), 0);
        Due.law(x, "y:7");
        x.bribes(4);
        x.paint(9, 9);
        x.paint(0, 1);
        x.wed(1);
        x.months(3);
        x.image();
        Due.feed(x, "b,");
        due.none("a fault", x.text(0));
        due.is("nothing is changed", x.count(5) * 10 + x.count(7), 31);
        x.end(0);
        Due.feed(x, "sp7;p;b;p;b;b");
        due.is("another court", x.text(0), 3);
        int[] counts = {3, 2, 1, 0, 0, 0, -1, 0, 4, 0};
        for (int what = 0; what < counts.length; what++) {
            due.is("count(" + what + ") of another court", x.count(what), counts[what]);
        }
        due.none("no image of another court", x.back());
        due.none("no act of another court", x.undo());
        due.is("STATUS stays", x.status(0), 1);
        due.is("the law holds still", x.shown(0, 0, 1), 7);
        due.is("the purse is new", x.rule(0), 7);
        due.is("pays are new", x.bride(2, 3), 2);
    }

    private static void lawTexts() {
        NinePortraits x = new NinePortraits();
        due.is("no law 0", x.law(0), false);
        due.is("none holds", x.law(-1), true);
        for (int i = 0; i < 4; i++) {
            Due.feed(x, "y:" + i);
            due.is("law " + i, x.text(1), i);
            due.is("none holds yet", x.count(4), -1);
        }
        Due.feed(x, "y:4");
        due.is("a fifth one has no fault", x.fault(1), -1);
        due.none("a fifth one", x.text(1));
        due.is("laws", x.count(2), 4);
        due.is("the tape stays", x.count(3), 3);
        due.is("law(4)", x.law(4), false);
        due.is("law(-2)", x.law(-2), false);
        due.is("law(3)", x.law(3), true);
        due.is("law(3) again", x.law(3), true);
        due.is("holds", x.count(4), 3);
        due.is("law(9) leaves it", x.law(9), false);
        due.is("holds", x.count(4), 3);
        x.end(0);
        Due.feed(x, "bf5w0y0;p");
        x.text(0);
        due.is("by law 3", x.shown(0, 0, 5), 3);
        due.is("law(1)", x.law(1), true);
        due.is("by law 1", x.shown(0, 0, 5), 1);
        due.is("law(NONE)", x.law(-1), true);
        due.is("by none", x.shown(0, 0, 5), 5);
        due.is("none holds", x.count(4), -1);
    }
}
