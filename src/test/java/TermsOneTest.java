/** Terms, ==== 1: the bounds of each number, how many of each there may be, where a FAULT stands, LAWS. */
final class TermsOneTest {
    private static final Due due = new Due("TermsOneTest");
    private static final String FULL_COURT = "sp12f3d4;bf4d56w7y8;ps9f10a2k3";
    private static final String FULL_LAW = "y:!(f<12|w>[3-y])&s=a?f*2/m+1234;y:56-7";

    private interface Part {
        int of(NinePortraits x);
    }

    public static void main(String[] args) {
        numbersOfRules();
        numbersOfBrides();
        numbersOfPainters();
        howManyRules();
        howManyBrides();
        howManyPainters();
        anyOrder();
        eachLetterOnce();
        lettersOfOtherClauses();
        fullestCourt();
        oneMoreThanAll();
        blanksOfCourt();
        courtThatEndsTooEarly();
        howManyLaws();
        lawsHaveAClause();
        lawNumbers();
        lawLetters();
        sixWithinOneAnother();
        moreThanSixSideBySide();
        nothingWhereOneIsDue();
        deepestLaws();
        blanksOfLaw();
        lawThatEndsTooEarly();
        heldWithinAMillion();
        cutTowardsNought();
        comparisons();
        joinedTruths();
        firstClauseThatHolds();
        due.finish();
    }

    // ---- COURT ----

    private static void courtFault(String text, int want) {
        NinePortraits x = new NinePortraits();
        Due.feed(x, text);
        due.is("fault(0) of <" + text + ">", x.fault(0), want);
        due.is("text(0) of <" + text + "> is taken", x.text(0) > 0, want == -1);
        due.is("bytes behind <" + text + ">", x.count(3), want == -1 ? 0 : text.length());
    }

    /** A number's text behind what stands ahead; rest makes it a court. */
    private static void number(String ahead, String rest, int most, int without, Part part) {
        String item = ahead.substring(0, ahead.length() - 1);
        due.is("<" + item + rest + "> without", part.of(Due.court(item + rest)), without);
        for (int v = 0; v <= most; v++) {
            due.is("<" + ahead + v + rest + ">", part.of(Due.court(ahead + v + rest)), v);
            if (v < 10) {
                due.is("<" + ahead + "0" + v + rest + ">", part.of(Due.court(ahead + "0" + v + rest)), v);
            }
        }
        int at = ahead.length();
        for (int v = most + 1; v <= 99; v++) {
            courtFault(ahead + v + rest, at + (v < 10 ? 0 : 1));
        }
        if (most < 9) {
            courtFault(ahead + "0" + (most + 1) + rest, at + 1);
        }
        courtFault(ahead + "000" + rest, at + 2);
        courtFault(ahead + "100" + rest, at + 2);
        courtFault(ahead + "999" + rest, at + 2);
        courtFault(ahead + "9999" + rest, at + 2);
        courtFault(ahead + rest, at);
        courtFault(ahead, at);
        courtFault(ahead + "-1" + rest, at);
    }

    private static void numbersOfRules() {
        number("sp", ";b;p", 99, 40, x -> x.rule(0));
        number("sf", ";b;p", 9, 5, x -> x.rule(1));
        number("sd", ";b;p", 9, 3, x -> x.rule(2));
    }

    private static void numbersOfBrides() {
        number("p;bf", "", 9, 5, x -> x.bride(0, 0));
        number("p;bd", ";s", 99, 20, x -> x.bride(0, 1));
        number("p;b;bw", "", 9, 1, x -> x.bride(1, 2));
        number("by", ";b;p", 9, 2, x -> x.bride(0, 3));
    }

    private static void numbersOfPainters() {
        number("b;ps", "", 9, 5, x -> x.painter(0, 0));
        number("b;pf", ";p", 30, 5, x -> x.painter(0, 1));
        number("b;p;pa", "", 9, 3, x -> x.painter(1, 2));
        number("pk", ";b", 3, 0, x -> x.painter(0, 3));
    }

    private static void howManyRules() {
        courtFault("b;p", -1);
        courtFault("b;s;p", -1);
        courtFault("s;b;s;p", 4);
        courtFault("sp1;b;p; s", 9);
        courtFault("s;s", 2);
    }

    private static void howManyBrides() {
        courtFault("p", 1);
        courtFault("s;p;p", 5);
        for (int n = 1; n <= 6; n++) {
            courtFault("b;".repeat(n) + "p", -1);
            due.is(n + " brides", Due.court("p" + ";b".repeat(n)).count(0), n);
        }
        courtFault("b;".repeat(7) + "p", 12);
        courtFault("p;s;" + "b ;".repeat(6) + " bf1", 23);
    }

    private static void howManyPainters() {
        courtFault("b", 1);
        courtFault("s;b;b", 5);
        for (int n = 1; n <= 5; n++) {
            courtFault("p;".repeat(n) + "b", -1);
            due.is(n + " painters", Due.court("b" + ";p".repeat(n)).count(1), n);
        }
        courtFault("p;".repeat(6) + "b", 10);
        courtFault("b;s;" + "p ;".repeat(5) + " pk1", 20);
    }

    private static void anyOrder() {
        for (String text : new String[] {"s;b;p", "s;p;b", "b;s;p", "b;p;s", "p;s;b", "p;b;s", "b;p;b;s;p;b"}) {
            courtFault(text, -1);
        }
    }

    /** Each letter once at most in a CLAUSE, and again in the next. */
    private static void eachLetterOnce() {
        String[] clauses = {"spfd", "bfdwy", "psfak"};
        for (String clause : clauses) {
            for (int i = 1; i < clause.length(); i++) {
                char letter = clause.charAt(i);
                String once = clause.substring(0, 1) + letter + "1";
                courtFault(once + letter + "2;b;p", 3);
                courtFault(once + " " + letter + "1", 4);
                for (int other = 1; other < clause.length(); other++) {
                    if (other != i) {
                        courtFault(once + clause.charAt(other) + "2" + letter + "3", 5);
                    }
                }
            }
        }
        courtFault("bf1;bf2;pf3;pf4", -1);
        NinePortraits x = Due.court("bf1;bf2;pf3;pf4");
        due.is("a letter in each clause",
            x.bride(0, 0) * 1000 + x.bride(1, 0) * 100 + x.painter(0, 1) * 10 + x.painter(1, 1), 1234);
    }

    private static void lettersOfOtherClauses() {
        String[] clauses = {"spfd", "bfdwy", "psfak"};
        for (String clause : clauses) {
            for (char sign = 1; sign < 256; sign++) {
                if (" ;".indexOf(sign) < 0 && clause.indexOf(sign, 1) < 0) {
                    courtFault(clause.charAt(0) + "" + sign + "1", 1);
                    // Behind a digit another one is the number's second, and the last one its third.
                    courtFault(clause.charAt(0) + "f1" + sign + "1", isDigit(sign) ? 4 : 3);
                }
            }
        }
        for (char sign = 1; sign < 256; sign++) {
            if ("sbp ".indexOf(sign) < 0) {
                courtFault(sign + ";b;p", 0);
                courtFault("b;" + sign, 2);
            }
        }
    }

    private static void fullestCourt() {
        String text = "sp99f9d9" + ";bf9d99w9y9".repeat(6) + ";ps9f30a9k3".repeat(5);
        courtFault(text, -1);
        NinePortraits x = Due.court(text);
        due.is("six and five", x.count(0) * 10 + x.count(1), 65);
        for (int bride = 0; bride < 6; bride++) {
            due.is("bride " + bride, x.bride(bride, 0) * 10000 + x.bride(bride, 1) * 100 + x.bride(bride, 2) * 10
                + x.bride(bride, 3), 99999);
        }
        for (int painter = 0; painter < 5; painter++) {
            due.is("painter " + painter, x.painter(painter, 0) * 10000 + x.painter(painter, 1) * 100
                + x.painter(painter, 2) * 10 + x.painter(painter, 3), 93093);
        }
        String wide = " ".repeat(240 - text.length()) + text;
        courtFault(wide, -1);
        due.is("a court of 240 bytes", wide.length(), 240);
    }

    /** Behind all twelve clauses: the one too many is wrong at it, not at the ; ahead of it. */
    private static void oneMoreThanAll() {
        String all = "s" + ";b".repeat(6) + ";p".repeat(5);
        courtFault(all, -1);
        courtFault(all + ";", 24);
        courtFault(all + "; ", 25);
        for (String more : "s b p x ;".split(" ")) {
            courtFault(all + ";" + more, 24);
            courtFault(all + " ; " + more, 26);
        }
    }

    private static boolean isDigit(char sign) {
        return sign >= '0' && sign <= '9';
    }

    /** Blanks may stand between all signs, not within numbers; no other byte is a blank. */
    private static void blanksOfCourt() {
        for (int i = 0; i <= FULL_COURT.length(); i++) {
            boolean within = i > 0 && i < FULL_COURT.length() && isDigit(FULL_COURT.charAt(i - 1))
                && isDigit(FULL_COURT.charAt(i));
            String ahead = FULL_COURT.substring(0, i);
            String rest = FULL_COURT.substring(i);
            courtFault(ahead + " " + rest, within ? i + 1 : -1);
            courtFault(ahead + "   " + rest, within ? i + 3 : -1);
            for (char other : new char[] {9, 10, 13, 31, 33, 127, 160, 255}) {
                courtFault(ahead + other + rest, i);
            }
        }
        courtFault(" ".repeat(240), 240);
    }

    /** The length, if it ends too early, without a BRIDE or a PAINTER. */
    private static void courtThatEndsTooEarly() {
        int painterAt = FULL_COURT.indexOf(";p") + 1;
        for (int n = 0; n <= FULL_COURT.length(); n++) {
            char last = n == 0 ? ';' : FULL_COURT.charAt(n - 1);
            boolean whole = n == painterAt + 1 || n > painterAt && isDigit(last);
            courtFault(FULL_COURT.substring(0, n), whole ? -1 : n);
        }
        courtFault("b;p;", 4);
        courtFault("b;p; ", 5);
        courtFault("b;;p", 2);
        courtFault(";b;p", 0);
        courtFault("b p", 2);
    }

    // ---- LAWS ----

    private static void lawFault(String text, int want) {
        NinePortraits x = new NinePortraits();
        Due.feed(x, text);
        due.is("fault(1) of <" + text + ">", x.fault(1), want);
        due.is("text(1) of <" + text + ">", x.text(1), want == -1 ? 0 : -1);
        due.is("bytes behind <" + text + ">", x.count(3), want == -1 ? 0 : text.length());
        due.is("laws behind <" + text + ">", x.count(2), want == -1 ? 1 : 0);
    }

    private static void shows(String law, int want) {
        NinePortraits x = Due.court("bf4w3y7;ps6a8");
        Due.law(x, law);
        due.is("shown by <" + law + ">", x.shown(0, 0, 4), want);
    }

    private static void howManyLaws() {
        NinePortraits x = Due.court("b;p");
        for (int i = 0; i < 4; i++) {
            due.is("laws", x.count(2), i);
            Due.feed(x, "y:" + (i + 1));
            due.is("law " + i, x.text(1), i);
        }
        Due.feed(x, "y:5");
        due.is("no fault of a fifth", x.fault(1), -1);
        due.none("a fifth", x.text(1));
        due.is("four", x.count(2), 4);
        due.is("its bytes stay", x.count(3), 3);
        for (int i = 0; i < 4; i++) {
            due.is("law(" + i + ")", x.law(i), true);
            due.is("shown by law " + i, x.shown(0, 0, 0), i + 1);
        }
        due.is("law(4)", x.law(4), false);
    }

    private static void lawsHaveAClause() {
        lawFault("", 0);
        lawFault(" ", 1);
        lawFault(";", 0);
        lawFault("y", 1);
        lawFault("y:", 2);
        lawFault("y:f", -1);
        lawFault("y:f;", 4);
        lawFault("y:1;".repeat(59) + "y:9", -1);
        lawFault("y:1;".repeat(60), 240);
    }

    private static void lawNumbers() {
        for (String number : new String[] {"0", "9", "00", "99", "000", "999", "0000", "9999"}) {
            lawFault("y:" + number, -1);
            lawFault("y:f=" + number + "?" + number, -1);
        }
        lawFault("y:00000", 6);
        lawFault("y:10000", 6);
        lawFault("y:99999", 6);
        lawFault("y:999999", 6);
        lawFault("y:f+12345", 8);
        lawFault("y:12 34", 5);
        shows("y:0", 0);
        shows("y:0007", 7);
        shows("y:9999-9994", 5);
        shows("y:1000-994", 6);
        shows("y:100-93", 7);
    }

    private static void lawLetters() {
        for (int sign = 1; sign < 256; sign++) {
            boolean good = "fwysam0123456789".indexOf(sign) >= 0;
            boolean begins = " [!(".indexOf(sign) >= 0;
            lawFault("y:" + (char) sign, good ? -1 : begins ? 3 : 2);
            boolean more = " [".indexOf(sign) >= 0;
            lawFault("y:f+" + (char) sign, good ? -1 : more ? 5 : 4);
            boolean goesOn = "=<>+-*/;".indexOf(sign) >= 0;
            lawFault("y:f" + (char) sign, sign == ' ' ? -1 : goesOn ? 4 : 3);
            boolean same = sign == 'y';
            lawFault((char) sign + ":f", same ? -1 : sign == ' ' ? 1 : 0);
        }
    }

    /** At most six of ( [ ! within one another, the seventh wrong at it, whichever they are. */
    private static void sixWithinOneAnother() {
        for (int way = 0; way < 729; way++) {
            StringBuilder open = new StringBuilder();
            int left = way;
            for (int i = 0; i < 6; i++) {
                // Neither ( nor ! may stand within a [.
                int sign = open.indexOf("[") >= 0 ? 1 : left % 3;
                left /= 3;
                open.append("([!".charAt(sign));
            }
            nested(open.toString());
        }
    }

    private static void nested(String open) {
        lawFault("y:" + open + "f" + closing(open), -1);
        String seventh = open.indexOf('[') < 0 ? "[(!" : "[";
        for (char sign : seventh.toCharArray()) {
            lawFault("y:" + open + sign + "f", 8);
            lawFault("y:" + open + " " + sign + "f", 9);
        }
    }

    /** Shuts what was opened, with a comparison where the sum is over, and an answer where it was a condition. */
    private static String closing(String open) {
        int sums = 0;
        int brackets = 0;
        for (char sign : open.toCharArray()) {
            sums += sign == '[' ? 1 : 0;
            brackets += sign == '(' ? 1 : 0;
        }
        String shut = "]".repeat(sums);
        if (sums == open.length()) {
            return shut;
        }
        return shut + "=1" + ")".repeat(brackets) + "?f";
    }

    private static void moreThanSixSideBySide() {
        lawFault("y:[f]" + "+[f]".repeat(20), -1);
        lawFault("y:(f=1)" + "&(f=1)".repeat(20) + "?f", -1);
        lawFault("y:!f=1" + "|!f=1".repeat(20) + "?f", -1);
        lawFault("y:[[[[[[f]]]]]]*[[[[[[f]]]]]]", -1);
        lawFault("y:[[[[[[f]]]]]]*[[[[[[[f]]]]]]]", 22);
        lawFault("y:!!!!!!f=1&!!!!!!f=1?[[[[[[f]]]]]]", -1);
        lawFault("y:!!!!!!f=1&!!!!!!!f=1?f", 18);
        lawFault("y:(((((([f]=1))))))?f", 8);
        lawFault("y:((((((f=1&[f]=1))))))?f", 12);
        lawFault("y:((((((f=1)))))&[[[[[f]]]]]=1)?f", -1);
        lawFault("y:((((((f=1)))))&[[[[[[f]]]]]]=1)?f", 22);
        lawFault("y:f=1?[[[[[[f]]]]]]", -1);
        lawFault("y:f=1?[[[[[[[f]]]]]]]", 12);
        lawFault("y:f=[[[[[[f]]]]]]?f", -1);
        lawFault("y:f=[[[[[[[f]]]]]]]?f", 10);
        lawFault("y:f;y:[[[[[[[f]]]]]]]", 12);
        lawFault("y:f=1|(((((((f=1)))))))?f", 12);
    }

    /** Where a CONDITION, UNIT, SUM or ATOM should stand and nothing does. */
    private static void nothingWhereOneIsDue() {
        lawFault("y:?f", 2);
        lawFault("y:=1?f", 2);
        lawFault("y:f=?f", 4);
        lawFault("y:f=1?;y:f", 6);
        lawFault("y:f=1??f", 6);
        lawFault("y:!?f", 3);
        lawFault("y:!=1?f", 3);
        lawFault("y:!f?f", 4);
        lawFault("y:!f=?f", 5);
        lawFault("y:!&f=1?f", 3);
        lawFault("y:(?f", 3);
        lawFault("y:()?f", 3);
        lawFault("y:(f)?f", 4);
        lawFault("y:(f=)?f", 5);
        lawFault("y:(f=1?f", 6);
        lawFault("y:(f=1&)?f", 7);
        lawFault("y:(f=1|)?f", 7);
        lawFault("y:(!)?f", 4);
        lawFault("y:&f=1?f", 2);
        lawFault("y:|f=1?f", 2);
        lawFault("y:f=1&?f", 6);
        lawFault("y:f=1|?f", 6);
        lawFault("y:f=1&&f=1?f", 6);
        lawFault("y:f=1||f=1?f", 6);
        lawFault("y:f=1&w?f", 7);
        lawFault("y:f=1|w?f", 7);
        lawFault("y:[]", 3);
        lawFault("y:[?f", 3);
        lawFault("y:[f?f", 4);
        lawFault("y:[f=1]", 4);
        lawFault("y:+f", 2);
        lawFault("y:f+?", 4);
        lawFault("y:f+;y:f", 4);
        lawFault("y:f**w", 4);
        lawFault("y:f/]", 4);
        lawFault("y::f", 2);
        lawFault("yf", 1);
        lawFault("y:f;:f", 4);
    }

    /** As many numbers and truths wait for one another as six within one another let. */
    private static void deepestLaws() {
        String waits = "1=2|1=1&";
        String deep = ("(" + waits).repeat(6);
        shows("y:" + waits + deep + "1+2*3=7*1+0*5" + ")".repeat(6) + "?8;y:2", 8);
        shows("y:" + waits + deep + "1+2*3=7*1+1*5" + ")".repeat(6) + "?8;y:2", 2);
        // 1 becomes -1, 3, -5, 11, -21, 43.
        shows("y:" + waits + "43=" + "1-2*[".repeat(6) + "0*1+1" + "]".repeat(6) + "?8;y:2", 8);
        shows("y:" + "1-2*[".repeat(6) + "0*1+1" + "]".repeat(6) + "-38", 5);
        shows("y:" + waits + "1-2*[".repeat(6) + "0*1+1" + "]".repeat(6) + "=43?8;y:2", 8);
        shows("y:!!!!!!1=1&" + waits + "!!!!!!1=1?8;y:2", 8);
        shows("y:" + "1+".repeat(118) + "1", 9);
        shows("y:" + "f-".repeat(118) + "f", 0);
        shows("y:" + "1=1&".repeat(58) + "1=1?3", 3);
        shows("y:" + "1=2|".repeat(58) + "1=1?3", 3);
        shows("y:" + "1=1|".repeat(58) + "1=2?3", 3);
    }

    private static void blanksOfLaw() {
        lawFault(FULL_LAW, -1);
        for (int i = 0; i <= FULL_LAW.length(); i++) {
            boolean within = i > 0 && i < FULL_LAW.length() && isDigit(FULL_LAW.charAt(i - 1))
                && isDigit(FULL_LAW.charAt(i));
            String ahead = FULL_LAW.substring(0, i);
            String rest = FULL_LAW.substring(i);
            lawFault(ahead + " " + rest, within ? i + 1 : -1);
            lawFault(ahead + "  " + rest, within ? i + 2 : -1);
            for (char other : new char[] {9, 10, 31, 160, 'd'}) {
                lawFault(ahead + other + rest, i);
            }
        }
    }

    private static void lawThatEndsTooEarly() {
        int[] whole = {23, 25, 27, 29, 30, 31, 32, 36, 37, 39};
        int next = 0;
        for (int n = 0; n <= FULL_LAW.length(); n++) {
            boolean good = next < whole.length && whole[next] == n;
            next += good ? 1 : 0;
            lawFault(FULL_LAW.substring(0, n), good ? -1 : n);
        }
        lawFault("y:f=1", 5);
        lawFault("y:f=1;y:2", 5);
        lawFault("y:(f=1)", 7);
        lawFault("y:[f", 4);
    }

    /** Behind each sign numbers are within -1,000,000 .. 1,000,000. */
    private static void heldWithinAMillion() {
        shows("y:[1000*1000-9999*100]/20", 5);
        shows("y:1000*1000+1-9999*100-95", 5);
        shows("y:1000*1001-9999*100-95", 5);
        shows("y:9999*9999-9999*100-95", 5);
        shows("y:9999*100+99-9999*100-95", 4);
        shows("y:9999*100+100-9999*100-95", 5);
        shows("y:9999*100+101-9999*100-95", 5);
        shows("y:0-1000*1000+9999*100+105", 5);
        shows("y:0-1000*1000-1+9999*100+105", 5);
        shows("y:[0-1000]*1001+9999*100+105", 5);
        shows("y:[0-9999]*9999+9999*100+105", 5);
        shows("y:0-9999*100-99+9999*100+105", 6);
        shows("y:0-9999*100-101+9999*100+105", 5);
        shows("y:1000*1000*1000*1000*1000*1000/1000/200", 5);
        shows("y:1000*1000=1000*1001?3;y:4", 3);
        shows("y:1000*1000>999*1000+999?3;y:4", 3);
    }

    /** / cuts towards 0, by 0 gives 0. */
    private static void cutTowardsNought() {
        shows("y:7/2", 3);
        shows("y:8/3", 2);
        shows("y:[0-7]/2+9", 6);
        shows("y:7/[0-2]+9", 6);
        shows("y:[0-7]/[0-2]", 3);
        shows("y:[0-1]/2+4", 4);
        shows("y:1/2+4", 4);
        shows("y:5/0+3", 3);
        shows("y:0/0+3", 3);
        shows("y:[0-5]/0+3", 3);
        shows("y:5/[f-4]+3", 3);
        shows("y:5*9/0+6-1", 5);
    }

    private static void comparisons() {
        String[] sides = {"3", "4", "5"};
        for (int i = 0; i < 3; i++) {
            shows("y:4=" + sides[i] + "?8;y:2", i == 1 ? 8 : 2);
            shows("y:4<" + sides[i] + "?8;y:2", i == 2 ? 8 : 2);
            shows("y:4>" + sides[i] + "?8;y:2", i == 0 ? 8 : 2);
            shows("y:!4>" + sides[i] + "?8;y:2", i == 0 ? 2 : 8);
            shows("y:!!4>" + sides[i] + "?8;y:2", i == 0 ? 8 : 2);
        }
        shows("y:0-4<0-3?8;y:2", 8);
        shows("y:0-1<0?8;y:2", 8);
    }

    private static void joinedTruths() {
        String[][] truths = {{"1=2", "1=1"}, {"2<1", "1<2"}, {"1>2", "2>1"}, {"!1<2", "!1>2"}};
        for (int way = 0; way < 8 * 64; way++) {
            int a = way & 1;
            int b = way >> 1 & 1;
            int c = way >> 2 & 1;
            String p = truths[way >> 3 & 3][a];
            String q = truths[way >> 5 & 3][b];
            String r = truths[way >> 7][c];
            shows("y:" + p + "&" + q + "&" + r + "?8;y:2", (a & b & c) == 1 ? 8 : 2);
            shows("y:" + p + "|" + q + "|" + r + "?8;y:2", (a | b | c) == 1 ? 8 : 2);
            shows("y:" + p + "|" + q + "&" + r + "?8;y:2", (a | b & c) == 1 ? 8 : 2);
            shows("y:" + p + "&" + q + "|" + r + "?8;y:2", (a & b | c) == 1 ? 8 : 2);
            shows("y:(" + p + "|" + q + ")&" + r + "?8;y:2", ((a | b) & c) == 1 ? 8 : 2);
            shows("y:!" + p + "&" + q + "|" + r + "?8;y:2", (1 - a & b | c) == 1 ? 8 : 2);
            shows("y:!(" + p + "&" + q + "|" + r + ")?8;y:2", (a & b | c) == 1 ? 2 : 8);
        }
    }

    /** WORTH: the first CLAUSE whose CONDITION holds (or has none), 0 without. */
    private static void firstClauseThatHolds() {
        shows("y:3;y:4", 3);
        shows("y:1=1?3;y:1=1?4;y:5", 3);
        shows("y:1=2?3;y:1=1?4;y:5", 4);
        shows("y:1=2?3;y:1=2?4;y:5", 5);
        shows("y:1=2?3;y:1=2?4;y:1=2?5", 0);
        shows("y:1=2?3", 0);
        shows("y:1=2?3;y:6;y:1=1?4", 6);
    }
}
