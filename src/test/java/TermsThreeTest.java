/** Terms, ==== 3: what FITS, is BELIEVED, LIKELY and SURE; whom the king would choose; houses and painters: each edge. */
final class TermsThreeTest {
    private static final Due due = new Due("TermsThreeTest");

    public static void main(String[] args) {
        askingChangesNothing();
        fits();
        beliefWithoutPortraits();
        beliefIsCut();
        beliefOfOthers();
        weightIsOneAtLeast();
        latestTwelve();
        kindsThatTell();
        likelyIsTheLowest();
        sureAtItsPart();
        nextIsTheLowest();
        apartOfSeveral();
        apartWithoutTellers();
        worthOfDowry();
        choosesTheLowest();
        loss();
        gameOfMoreAndAsMuch();
        gameHalfIsCut();
        restsRise();
        truthIsCut();
        cheapestOfSeveral();
        annulIsCut();
        whose();
        headsOfNumbers();
        headsOfFear();
        headsAreCut();
        matchOfSeveral();
        matchOfFew();
        plainBelowFive();
        mostOfSeveral();
        liesAndTold();
        seen();
        saves();
        rivals();
        affords();
        due.finish();
    }

    private static void askingChangesNothing() {
        Twin twin = new Twin(due, "asked of all", x -> {
            Due.feed(x, "bf3w0y4;bf8;pf1a0;pf2k1;pf0k3");
            x.text(0);
            Due.feed(x, "y:f+y-m");
            x.text(1);
            x.law(0);
            x.paint(0, 0);
            x.paint(1, 1);
            x.paint(2, 1);
            x.letter(0);
            x.months(2);
            x.image();
            x.pay(0, 3);
            Due.feed(x, "b;p");
        });
        twin.answers("all questions", x -> {
            for (int bride = 0; bride < 2; bride++) {
                x.fits(bride);
                x.belief(bride, 3);
                x.likely(bride, 0);
                x.sure(bride, 500);
                x.next(bride);
                x.apart(bride);
                x.worth(bride, 9);
                x.looks(bride);
                x.matched(bride);
                x.seen(bride);
                x.rivals(bride);
            }
            for (int painter = 0; painter < 3; painter++) {
                x.flattery(painter, 0);
                x.shown(painter, 1, 9);
                x.game(0, 1, painter, 9, 9, 0);
                x.rests(1, 0, painter, -1);
                x.truth(painter, 0);
                x.whose(painter, 9);
                x.heads(painter, 20, 50);
                x.affords(painter);
                x.told(painter);
            }
            for (int what = 0; what < 5; what++) {
                x.chooses(what);
                x.most(what);
                x.status(what);
                x.cheapest(3, what);
                x.portrait(what, 0);
            }
            x.fault(0);
            x.fault(1);
            return x.saves(999) > 0 ? 1 : 0;
        }, 1);
    }

    private static void fits() {
        for (int f = 0; f < 10; f++) {
            int byLetter = 0;
            int byShoe = 0;
            for (int g = 0; g < 10; g++) {
                byLetter |= g >= 5 == f >= 5 ? 1 << g : 0;
                byShoe |= g % 2 == f % 2 ? 1 << g : 0;
            }
            NinePortraits x = Due.court("sp3;bf" + f + ";b;p");
            due.is("nothing told of " + f, x.fits(0), 1023);
            x.shoe(0);
            due.is("a shoe of " + f, x.fits(0), byShoe);
            x.letter(0);
            due.is("both of " + f, x.fits(0), byShoe & byLetter);
            due.is("the other", x.fits(1), 1023);
            NinePortraits y = Due.court("sp3;b;bf" + f + ";p");
            y.letter(1);
            due.is("a letter of " + f, y.fits(1), byLetter);
        }
    }

    private static void beliefWithoutPortraits() {
        for (int f = 0; f < 10; f++) {
            NinePortraits x = Due.court("bf" + f + ";p");
            for (int g = 0; g < 10; g++) {
                due.is("of ten", x.belief(0, g), 100000);
            }
            x.letter(0);
            due.is("of five", x.belief(0, f), 200000);
            x.shoe(0);
            boolean three = f == 0 || f == 2 || f == 4 || f == 5 || f == 7 || f == 9;
            due.is("of two or three", x.belief(0, f), three ? 333333 : 500000);
            due.is("of two or three, likely", x.likely(0, 1), three ? 333333 : 500000);
        }
    }

    /** Of 10 to the 6 parts, each cut. */
    private static void beliefIsCut() {
        NinePortraits x = Due.court("bf0w0y0;ps1f0");
        x.paint(0, 0);
        // 0 was shown: 2 for it, 1 for each of nine more, 11 in all.
        due.is("2 of 11", x.belief(0, 0), 181818);
        for (int f = 1; f < 10; f++) {
            due.is("1 of 11", x.belief(0, f), 90909);
        }
        x.shoe(0);
        due.is("2 of 6", x.belief(0, 0), 333333);
        due.is("1 of 6", x.belief(0, 2), 166666);
    }

    private static void beliefOfOthers() {
        NinePortraits x = Due.court("bf5w0y0;ps9f0");
        x.paint(0, 0);
        x.letter(0);
        for (int f = 0; f < 5; f++) {
            due.is("does not fit " + f, x.belief(0, f), 0);
        }
        x.shoe(0);
        due.is("does not fit 6", x.belief(0, 6), 0);
        due.is("does not fit 8", x.belief(0, 8), 0);
        due.is("10 of 10, 8 and 6", x.belief(0, 5), 416666);
    }

    /** 1 more than SKILL less how far, 1 at least. */
    private static void weightIsOneAtLeast() {
        for (int skill = 0; skill < 10; skill++) {
            NinePortraits x = Due.court("bf0w0y0;ps" + skill + "f0");
            x.paint(0, 0);
            int sum = 0;
            int[] weights = new int[10];
            for (int f = 0; f < 10; f++) {
                weights[f] = f > skill ? 1 : skill + 1 - f;
                sum += weights[f];
            }
            for (int f = 0; f < 10; f++) {
                due.is("skill " + skill + ", face " + f, x.belief(0, f), 1000000 * weights[f] / sum);
            }
        }
    }

    /** The latest 12 of her PORTRAITS by PAINTERS of KIND 0, 1, 2; SKILL 0 tells nothing, but takes a place. */
    private static void latestTwelve() {
        for (int later = 9; later <= 14; later++) {
            NinePortraits x = Due.court("bf0w0y0;b;ps1f0;ps0f0;pf0k3");
            x.paint(0, 0);
            x.paint(2, 0);
            x.paint(0, 1);
            for (int i = 0; i < later; i++) {
                x.paint(1, 0);
            }
            x.paint(2, 0);
            x.paint(0, 1);
            due.is(later + " later", x.belief(0, 0), later < 12 ? 181818 : 100000);
        }
    }

    private static void kindsThatTell() {
        int[] want = {0, 0, 0, 0};
        for (int kind = 0; kind < 4; kind++) {
            NinePortraits x = Due.court("bf9w0y0;ps9f0k" + kind);
            x.paint(0, 0);
            want[kind] = x.likely(0, 0);
        }
        due.is("kind 0 tells 9", want[0], 9);
        due.is("kind 1 tells 9", want[1], 9);
        due.is("kind 2 tells 9", want[2], 9);
        due.is("kind 3 tells nothing", want[3], 0);
    }

    private static void likelyIsTheLowest() {
        for (int f = 0; f < 10; f++) {
            NinePortraits x = Due.court("bf" + f + "w0y0;pf0");
            Due.law(x, "y:f/3*3");
            x.paint(0, 0);
            due.is("of those as " + f + " the lowest", x.likely(0, 0), f / 3 * 3);
            x.undo();
            x.shoe(0);
            due.is("of those that fit " + f + " the lowest", x.likely(0, 0), f % 2);
            x.letter(0);
            due.is("of both", x.likely(0, 0), f >= 5 ? 6 - f % 2 : f % 2);
        }
    }

    private static void sureAtItsPart() {
        NinePortraits x = Due.court("bf0;p");
        due.is("one part", x.sure(0, 1), 1);
        due.is("as much", x.sure(0, 100000), 1);
        due.is("one more", x.sure(0, 100001), 0);
        due.is("all", x.sure(0, 1000000), 0);
        due.none("more than all", x.sure(0, 1000001));
        due.none("no part", x.sure(0, 0));
        due.none("below", x.sure(0, -1));
        x.letter(0);
        x.shoe(0);
        due.is("a third", x.sure(0, 333333), 1);
        due.is("more than a third", x.sure(0, 333334), 0);
    }

    private static void nextIsTheLowest() {
        due.is("all the same", Due.court("b;p;p;p;p;p").next(0), 0);
        due.is("kind 3 is left out", Due.court("b;pk3;pk3;pk3;pk3;p").next(0), 4);
        due.none("kind 3 alone", Due.court("b;pk3;pk3;pk3;pk3;pk3").next(0));
        NinePortraits x = Due.court("b;ps3;ps2;ps1;ps2");
        Due.law(x, "y:f/s");
        due.is("the fewest alike", x.next(0), 2);
        NinePortraits y = Due.court("b;ps3;ps2;ps5;ps2");
        Due.law(y, "y:f/s");
        due.is("of two the lowest", y.next(0), 1);
        NinePortraits z = Due.court("b;pk3;p;p");
        Due.law(z, "y:5");
        due.is("all are alike by all", z.next(0), 1);
        for (int f = 0; f < 9; f++) {
            NinePortraits two = Due.court("b;ps1;ps2");
            Due.law(two, "y:s=1&f=" + f + "?f+1;y:f");
            due.is(f + " and the next alike by the first", two.next(0), 1);
            due.is(f + " and the next told by the second", two.apart(0), 2);
        }
    }

    private static void apartOfSeveral() {
        due.is("all alike, the lowest", Due.court("bw0y0;p;p;p;p;p").apart(0), 1);
        due.is("the last alone", Due.court("bw0y0;pk3;pk3;pk3;pk3;p").apart(0), 16);
        NinePortraits x = Due.court("b;ps1;ps2;ps1;ps2;ps0");
        Due.law(x, "y:s=1?f/2;y:s=2?f-f/2*2;y:0");
        due.is("the least bits of two", x.apart(0), 3);
        NinePortraits y = Due.court("b;ps0;ps2;ps1;ps1;ps2");
        Due.law(y, "y:s=1?f/2;y:s=2?f-f/2*2;y:0");
        due.is("the least bits of others", y.apart(0), 6);
        NinePortraits z = Due.court("b;ps1;ps2;ps3;ps4;ps9");
        Due.law(z, "y:s=1?f-f/2*2;y:s=2?f/2-f/4*2;y:s=3?f/4-f/8*2;y:s=4?f/8;y:f");
        due.is("one is fewer than four", z.apart(0), 16);
        NinePortraits five = Due.court("bf9;ps1;ps2;ps3;ps4;ps5");
        Due.law(five, "y:f=s-1?1;y:f=s+4?1;y:0");
        due.none("two pairs stay alike", five.apart(0));
        five.letter(0);
        due.is("four of five tell five faces apart", five.apart(0), 15);
    }

    private static void apartWithoutTellers() {
        NinePortraits x = Due.court("bw0y0;pk1");
        due.none("0 and 1 are half alike", x.apart(0));
        NinePortraits y = Due.court("bf8w0y0;pk3;pk1");
        y.letter(0);
        due.none("7 and 8 are alike", y.apart(0));
        y.shoe(0);
        due.is("6 and 8 are not", y.apart(0), 2);
        due.none("kind 3 alone", Due.court("bw0y0;pk3").apart(0));
        for (int f = 0; f < 10; f++) {
            for (int g = 0; g < 10; g++) {
                NinePortraits alike = Due.court("bf8;p");
                Due.law(alike, "y:f=" + f + "?" + g + ";y:f");
                due.is(f + " as " + g, alike.apart(0), f == g ? 1 : -1);
                alike.letter(0);
                due.is(f + " as " + g + " from 5 on", alike.apart(0), f >= 5 && g >= 5 && f != g ? -1 : 1);
                alike.shoe(0);
                boolean both = f % 2 == 0 && g % 2 == 0 && f > 5 && g > 5 && f != g;
                due.is(f + " as " + g + " of 6 and 8", alike.apart(0), both ? -1 : 1);
            }
        }
    }

    private static void worthOfDowry() {
        for (int dowry = 0; dowry < 100; dowry++) {
            NinePortraits x = Due.court("sf9d9;bd" + dowry + ";p");
            int tens = (dowry - dowry % 10) / 10;
            due.is("worth of 0 and " + dowry, x.worth(0, 0), 9 * tens);
            due.is("worth of 9 and " + dowry, x.worth(0, 9), 81 + 9 * tens);
        }
        NinePortraits x = Due.court("sf0d0;bd99;p");
        due.is("nothing is wanted", x.worth(0, 9), 0);
    }

    private static void choosesTheLowest() {
        NinePortraits x = Due.court("bf5d20;bf5d29;bf5d25;p");
        due.is("all the same", x.chooses(0) + x.chooses(1) + x.chooses(2), 0);
        NinePortraits y = Due.court("bf4d19;bf5d20;bf5d29;bf5d20;p");
        due.is("of three the lowest by likely faces", y.chooses(0), 1);
        due.is("of three the lowest by true faces", y.chooses(1), 1);
        due.is("of three the lowest by dowries", y.chooses(2), 1);
        NinePortraits z = Due.court("sf1d1;bf0d99;bf9d0;b;b;b;bf9d10;p");
        due.is("the last by true faces", z.chooses(1), 5);
        due.is("the first by dowries", z.chooses(2), 0);
        due.is("the first by likely faces", z.chooses(0), 0);
        NinePortraits told = Due.court("sf1d0;bf9w0y0;bf3w0y0;bf3w0y0;bf2w0y0;ps9f0");
        told.paint(0, 3);
        due.is("by likely faces 0, 0, 0, 2", told.chooses(0), 3);
        told.paint(0, 2);
        due.is("by 0, 0, 3, 2", told.chooses(0), 2);
        told.paint(0, 1);
        due.is("by 0, 3, 3, 2 the lowest", told.chooses(0), 1);
        due.is("the true one", told.chooses(1), 0);
        due.is("loss", told.chooses(3), 6);
        told.letter(0);
        due.is("by 5, 3, 3, 2", told.chooses(0) + told.chooses(3), 0);
        NinePortraits rich = Due.court("sf9d1;bf9w0y0d19;bf0w0y0d20;ps9f0");
        rich.paint(0, 0);
        due.is("by dowry alone, no face", rich.chooses(2), 1);
        NinePortraits one = Due.court("bf0d0;p");
        due.is("one alone", one.chooses(0) + one.chooses(1) + one.chooses(2) + one.chooses(3), 0);
    }

    private static void loss() {
        NinePortraits x = Due.court("sf9d9;bf0d10;bf9d9;p");
        due.is("81 less 9", x.chooses(3), 72);
        NinePortraits y = Due.court("sf9d9;bf9d99;bf0;p");
        due.is("the same", y.chooses(3), 0);
        NinePortraits z = Due.court("sf9d0;bf0;bf9;p");
        due.is("the most", z.chooses(3), 81);
    }

    private static void gameOfMoreAndAsMuch() {
        NinePortraits x = Due.court("b;b;pa0");
        Due.law(x, "y:y/2");
        for (int a = 0; a < 10; a++) {
            for (int b = 0; b < 10; b++) {
                int one = a / 2 > b / 2 ? 6 : a / 2 == b / 2 ? 3 : 0;
                due.is("one of " + a + ", " + b, x.game(0, 1, 0, a, b, 0), one - a / 2);
                due.is("the other of " + a + ", " + b, x.game(0, 1, 0, a, b, 1), 6 - one - b / 2);
            }
        }
    }

    /** Less half of what it PAYS, cut. */
    private static void gameHalfIsCut() {
        int[] takes = {0, 0, 1, 1, 2, 2, 3, 3, 4, 4};
        NinePortraits x = Due.court("bf0;bf9;p");
        Due.law(x, "y:f");
        for (int pays = 0; pays < 10; pays++) {
            due.is("the worse pays " + pays, x.game(0, 1, 0, pays, 0, 0), -takes[pays]);
            due.is("the better pays " + pays, x.game(0, 1, 0, 0, pays, 1), 6 - takes[pays]);
            due.is("alone", x.game(1, 0, 0, pays, 0, 0), 6 - takes[pays]);
        }
    }

    private static void restsRise() {
        NinePortraits x = Due.court("b;b;p");
        Due.law(x, "y:5");
        // Nothing is bought: 0 and 1 cost nothing.
        int[] want = {0, 1, 10, 11};
        due.is("four", x.rests(0, 1, 0, -1), 4);
        for (int i = 0; i < 4; i++) {
            due.is("the " + i + "-th", x.rests(0, 1, 0, i), want[i]);
        }
        due.none("no fifth", x.rests(0, 1, 0, 4));
        due.none("none of these", x.rests(0, 1, 0, Integer.MAX_VALUE));
        due.none("below NONE", x.rests(0, 1, 0, -2));
        due.none("far below", x.rests(0, 1, 0, Integer.MIN_VALUE));
        NinePortraits y = Due.court("bf0;bf1;p");
        Due.law(y, "y:f=1?2;y:y=9?9;y:0");
        due.is("9 is worth it to the one", y.rests(0, 1, 0, -1), 2);
        due.is("90", y.rests(0, 1, 0, 0), 90);
        due.is("91", y.rests(0, 1, 0, 1), 91);
        due.none("no third", y.rests(0, 1, 0, 2));
        due.is("turned round", y.rests(1, 0, 0, 1), 19);
        NinePortraits less = Due.court("b;b;p");
        Due.law(less, "y:y=0?9;y:0");
        due.is("to pay nothing is best", less.rests(0, 1, 0, -1), 1);
        due.is("00", less.rests(0, 1, 0, 0), 0);
        NinePortraits z = Due.court("b;b;p");
        Due.law(z, "y:y");
        due.is("none rests", z.rests(0, 1, 0, -1), 0);
        due.none("not even one", z.rests(0, 1, 0, 0));
    }

    /** No more than FEAR times FLATTERY by 3, cut. */
    private static void truthIsCut() {
        for (int pays = 0; pays < 10; pays++) {
            for (int fear = 0; fear < 10; fear++) {
                NinePortraits x = Due.court("by" + pays + ";pa" + fear);
                int product = fear * x.flattery(0, 0);
                due.is(pays + " by " + fear, x.truth(0, 0), pays <= (product - product % 3) / 3 ? 1 : 0);
            }
        }
        due.is("4 times 4 by 3 is 5, no less", Due.court("by5;pa4").truth(0, 0), 1);
        due.is("4 times 3 by 3 is 4", Due.court("by4;pa4").truth(0, 0), 1);
        due.is("4 times 2 by 3 is 2", Due.court("by3;pa4").truth(0, 0), 0);
        due.is("nothing is paid, nothing feared", Due.court("by0;pa0").truth(0, 0), 1);
    }

    private static void cheapestOfSeveral() {
        NinePortraits x = Due.court("b;b;b;b;b;b;pf30;pf0;pf30;pf0;pf1");
        int[] fees = {0, 0, 0, 1, 31, 61};
        int[] rows = {0, 1, 13, 134, 134, 1234};
        for (int set = 1; set < 64; set++) {
            int n = Integer.bitCount(set);
            due.is("fees of " + set, x.cheapest(set, 0), n > 5 ? -1 : fees[n]);
            due.is("row of " + set, x.cheapest(set, 1), n > 5 ? -1 : rows[n]);
        }
        due.none("no set", x.cheapest(0, 0));
        due.none("a seventh", x.cheapest(64, 0));
        NinePortraits one = Due.court("b;b;pf30");
        due.is("one", one.cheapest(1, 0), 30);
        due.is("the other", one.cheapest(2, 1), 0);
        due.none("too few", one.cheapest(3, 0));
        due.none("no such bride", one.cheapest(4, 0));
    }

    /** By how much she LOOKS more than her FACE (below 0: less), all her PORTRAITS together by how many, cut. */
    private static void annulIsCut() {
        int[][] looks = {{9}, {0}, {5}, {6, 5}, {5, 4}, {9, 9, 8}, {0, 0, 1}};
        int[] want = {4, -5, 0, 0, -1, 3, -5};
        for (int i = 0; i < looks.length; i++) {
            NinePortraits x = Due.court("by0;by9;pf0");
            Due.law(x, "y:y");
            due.hidden("no portrait", x.looks(0));
            x.paint(0, 1);
            due.hidden("no portrait of hers", x.looks(0));
            for (int look : looks[i]) {
                x.pay(0, look - x.bride(0, 3));
                x.paint(0, 0);
            }
            due.is("looks " + i, x.looks(0), want[i]);
        }
    }

    private static void whose() {
        NinePortraits x = Due.court("bf0w0y0;bf9w0y0;bf5w0y0;bf4w0y0;bf9w0y0;bf0w0y0;pk0;pk1;pk2;pk3f0");
        int[][] want = {{33, 0, 0, 0, 8, 4, 0, 0, 0, 18}, {0, 0, 0, 33, 0, 8, 4, 0, 18, 0},
            {33, 0, 8, 4, 0, 0, 0, 18, 0, 0}, {33, 0, 0, 0, 8, 4, 0, 0, 0, 18}};
        for (int painter = 0; painter < 4; painter++) {
            for (int v = 0; v < 10; v++) {
                due.is("whose " + v + " by " + painter, x.whose(painter, v), want[painter][v]);
            }
            due.none("below", x.whose(painter, -1));
            due.none("above", x.whose(painter, 10));
        }
        x.paint(3, 2);
        due.is("all by one that is sold twice", x.whose(3, 5), 63);
        due.is("none by it", x.whose(3, 9), 0);
    }

    private static void headsOfNumbers() {
        NinePortraits x = Due.court("b;pa0");
        due.is("no portrait", x.heads(0, 0, 100), 1000000000);
        due.is("no chance", x.heads(0, 20, 0), 1000000000);
        due.is("surely", x.heads(0, 1, 100), 0);
        due.is("surely by twenty", x.heads(0, 20, 100), 0);
        due.is("one part", x.heads(0, 1, 1), 990000000);
        due.is("all but one part", x.heads(0, 1, 99), 10000000);
        due.none("21", x.heads(0, 21, 50));
        due.none("-1", x.heads(0, -1, 50));
        due.none("101", x.heads(0, 1, 101));
        due.none("chance -1", x.heads(0, 1, -1));
    }

    /** By chance, unless FEAR is more than 5: then by half of it, cut. */
    private static void headsOfFear() {
        for (int fear = 0; fear < 10; fear++) {
            NinePortraits x = Due.court("b;pa" + fear);
            for (int chance = 0; chance <= 100; chance++) {
                int each = fear > 5 ? (chance - chance % 2) / 2 : chance;
                due.is("fear " + fear + ", chance " + chance, x.heads(0, 1, chance), 10000000L * (100 - each));
            }
        }
    }

    /** Chance by 100 of what is left, cut. */
    private static void headsAreCut() {
        NinePortraits x = Due.court("b;pa5");
        for (int chance = 0; chance <= 100; chance += 9) {
            long left = 1000000000L;
            for (int n = 0; n <= 20; n++) {
                due.is("heads(0, " + n + ", " + chance + ")", x.heads(0, n, chance), left);
                left -= (left * chance - left * chance % 100) / 100;
            }
        }
        // 10, then 99 of 100 of it, 9.9, are 9: one is left, and stays.
        due.is("one of 99 is cut away", x.heads(0, 5, 99), 1);
        due.is("and nothing of one", x.heads(0, 20, 99), 1);
    }

    private static void matchOfSeveral() {
        NinePortraits x = Due.court("by2;by2;by2;by2;by2;pf5;pf5;pf5;pf5;pf5");
        for (int bride = 0; bride < 5; bride++) {
            due.is("the lowest with the lowest", x.matched(bride), bride);
        }
        NinePortraits y = Due.court("by0;by9;by1;by9;pf30;pf0;pf29;pf0");
        int[] want = {0, 1, 2, 3};
        for (int bride = 0; bride < 4; bride++) {
            due.is("match of " + bride, y.matched(bride), want[bride]);
        }
    }

    private static void matchOfFew() {
        NinePortraits x = Due.court("by0;by1;by2;by3;by4;by5;p");
        for (int bride = 0; bride < 6; bride++) {
            due.is("one painter", x.matched(bride), bride == 5 ? 0 : -1);
        }
        NinePortraits y = Due.court("b;pf3;pf2;pf1;pf2;pf1");
        due.is("one bride", y.matched(0), 2);
        NinePortraits all = Due.court("b;b;b;b;b;b;p;p;p;p;p");
        for (int bride = 0; bride < 6; bride++) {
            due.is("six and five", all.matched(bride), bride < 5 ? bride : -1);
        }
        Due.feed(all, "b;b;p");
        all.text(0);
        due.none("of a court with fewer", all.matched(1));
        x.pay(0, 5);
        due.is("as much, but lower", x.matched(0), 0);
        due.none("as much, but higher", x.matched(5));
    }

    private static void plainBelowFive() {
        for (int f = 0; f < 10; f++) {
            NinePortraits x = Due.court("bf" + f + "w0y0;bf" + f + "w0y0;ps9f0");
            due.is("none told", x.most(0), 3);
            x.paint(0, 1);
            due.is("likely " + f, x.most(0), f < 5 ? 3 : 1);
            x.letter(0);
            due.is("by letter " + f, x.most(0), f < 5 ? 3 : 0);
        }
    }

    private static void mostOfSeveral() {
        NinePortraits x = Due.court("b;b;b;p;p;p");
        due.is("all the same", x.most(1) + x.most(2) + x.most(3), 0);
        NinePortraits y = Due.court("bf8d98;bf9d99;bf9d99;pf30;pf29;pf29");
        due.is("richest", y.most(1), 1);
        due.is("fairest", y.most(2), 1);
        due.is("cheap", y.most(3), 1);
        NinePortraits z = Due.court("bf0d0;b;b;b;b;bf9d99;p;p;p;p;pf0");
        due.is("the last", z.most(1) * 100 + z.most(2) * 10 + z.most(3), 554);
        due.is("no lies", z.most(4), 0);
    }

    private static void liesAndTold() {
        NinePortraits x = Due.court("bf5y0;bf5y9;pf0;pf0;pf0");
        Due.law(x, "y:y");
        x.paint(0, 0);
        due.is("5 below", x.told(0), -5);
        x.paint(0, 1);
        due.is("4 above", x.told(0), -1);
        x.paint(1, 1);
        due.is("4 above alone", x.told(1), 4);
        due.is("none the less", x.told(0), -1);
        due.hidden("none of its hand", x.told(2));
        due.is("lies", x.most(4), 13);
        x.pay(0, 5);
        x.paint(2, 0);
        due.is("just so", x.told(2), 0);
        due.is("lies", x.most(4), 13);
    }

    private static void seen() {
        NinePortraits x = Due.court("sp0;b;b;pf0k3;pf0");
        due.is("none", x.seen(0), 0);
        for (int i = 1; i <= 20; i++) {
            x.paint(i % 2, 0);
            due.is("seen", x.seen(0) * 10 + x.seen(1), i * 10);
        }
    }

    private static void saves() {
        NinePortraits x = Due.court("sp50;b;p");
        int[] n = {1, 49, 50, 51, 999};
        int[] want = {0, 0, 0, 1, 949};
        for (int i = 0; i < n.length; i++) {
            due.is("saves(" + n[i] + ")", x.saves(n[i]), want[i]);
        }
        due.none("0", x.saves(0));
        due.none("1000", x.saves(1000));
        due.none("below", x.saves(-1));
        x.months(1);
        due.is("a month later", x.saves(51), 0);
    }

    private static void rivals() {
        NinePortraits x = Due.court("sf1d1;bf5d10;bf6d9;bf5d19;bf4d20;bf7d9;bf5d9;p");
        // Worth 6, 6, 6, 6, 7, 5.
        int[] want = {16, 16, 16, 16, 0, 31};
        for (int bride = 0; bride < 6; bride++) {
            due.is("rivals(" + bride + ")", x.rivals(bride), want[bride]);
        }
        x.paint(0, 5);
        due.is("by true faces alone", x.rivals(4), 0);
    }

    private static void affords() {
        int[][] cases = {{0, 0, 20}, {0, 1, 0}, {1, 1, 1}, {19, 1, 19}, {20, 1, 20}, {21, 1, 20}, {29, 30, 0},
            {30, 30, 1}, {59, 30, 1}, {60, 30, 2}, {99, 5, 19}, {99, 4, 20}, {99, 30, 3}};
        for (int[] each : cases) {
            NinePortraits x = Due.court("sp" + each[0] + ";b;pf" + each[1] + ";pf0");
            due.is("fee " + each[1] + " of " + each[0], x.affords(0), each[2]);
            x.paint(1, 0);
            due.is("nineteen places", x.affords(0), Math.min(19, each[2]));
            for (int i = 1; i < 20; i++) {
                x.paint(1, 0);
            }
            due.is("no place", x.affords(0), 0);
            due.is("no place", x.affords(1), 0);
        }
    }
}
