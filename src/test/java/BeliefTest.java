/** Promises 25 to 30: what fits, beliefs, the likely face, sureness, whom to send, who tells apart. */
final class BeliefTest {
    private static final Due due = new Due("BeliefTest");

    public static void main(String[] args) {
        fits();
        belief();
        latestTwelve();
        soldTwiceTellsNothing();
        asItIsNow();
        likelyAndSure();
        next();
        apart();
        bounds();
        due.finish();
    }

    private static void fits() {
        int[] letter = {0b0000011111, 0b1111100000};
        int[] shoe = {0b0101010101, 0b1010101010};
        for (int f = 0; f < 10; f++) {
            NinePortraits x = Due.court("b;bf" + f + ";p");
            due.is("fits of " + f, x.fits(1), 1023);
            x.letter(1);
            due.is("fits of " + f + " by letter", x.fits(1), letter[f / 5]);
            due.is("the other", x.fits(0), 1023);
            x.shoe(1);
            due.is("fits of " + f + " by both", x.fits(1), letter[f / 5] & shoe[f % 2]);
            x.undo();
            x.undo();
            x.shoe(1);
            due.is("fits of " + f + " by shoe", x.fits(1), shoe[f % 2]);
        }
    }

    private static void belief() {
        NinePortraits x = Due.court("bf7w0y0;bf2w0y0;ps2f0");
        for (int f = 0; f < 10; f++) {
            due.is("without portraits", x.belief(0, f), 100000);
        }
        x.paint(0, 0);
        // 7 was shown, skill 2: weights 1 1 1 1 1 1 2 3 2 1, 14 in all.
        int[] weights = {1, 1, 1, 1, 1, 1, 2, 3, 2, 1};
        for (int f = 0; f < 10; f++) {
            due.is("belief in " + f, x.belief(0, f), 1000000 * weights[f] / 14);
            due.is("of another bride", x.belief(1, f), 100000);
        }
        x.paint(0, 0);
        for (int f = 0; f < 10; f++) {
            due.is("belief by two in " + f, x.belief(0, f), 1000000 * weights[f] * weights[f] / 24);
        }
        x.letter(0);
        for (int f = 0; f < 10; f++) {
            due.is("by a letter in " + f, x.belief(0, f), f < 5 ? 0 : 1000000 * weights[f] * weights[f] / 19);
        }
    }

    private static void latestTwelve() {
        NinePortraits x = Due.court("bf5w0y0;ps9f0;ps9f0k3;ps0f0");
        x.paint(1, 0);
        for (int i = 0; i < 3; i++) {
            x.paint(0, 0);
        }
        for (int i = 0; i < 11; i++) {
            x.paint(2, 0);
        }
        x.paint(1, 0);
        // Eleven of skill 0 tell nothing, the latest of skill 9 is the twelfth: 10 less how far.
        for (int f = 0; f < 10; f++) {
            due.is("by the latest twelve in " + f, x.belief(0, f), 1000000 * (10 - Math.abs(f - 5)) / 75);
        }
        x.paint(2, 0);
        for (int f = 0; f < 10; f++) {
            due.is("none of skill is left in " + f, x.belief(0, f), 100000);
        }
        NinePortraits y = Due.court("bf9w0y0;ps9f0");
        for (int i = 0; i < 20; i++) {
            y.paint(0, 0);
        }
        java.math.BigInteger sum = java.math.BigInteger.ZERO;
        for (int f = 0; f < 10; f++) {
            sum = sum.add(java.math.BigInteger.valueOf(f + 1).pow(12));
        }
        for (int f = 0; f < 10; f++) {
            due.is("the greatest weights in " + f, y.belief(0, f), java.math.BigInteger.valueOf(f + 1).pow(12)
                .multiply(java.math.BigInteger.valueOf(1000000)).divide(sum).longValueExact());
        }
    }

    private static void soldTwiceTellsNothing() {
        NinePortraits x = Due.court("bf5w0y0;ps9f0k3");
        x.paint(0, 0);
        for (int f = 0; f < 10; f++) {
            due.is("sold twice in " + f, x.belief(0, f), 100000);
        }
    }

    private static void asItIsNow() {
        NinePortraits x = Due.court("bf5w0y0;ps9f0a0");
        x.paint(0, 0);
        due.is("likely", x.likely(0, 0), 5);
        x.pay(0, 3);
        due.is("5 was shown, as of 2 now", x.likely(0, 0), 2);
        Due.law(x, "y:9-f+m");
        due.is("by the law as of 4", x.likely(0, 0), 4);
        x.months(2);
        due.is("by the month as of 6", x.likely(0, 0), 6);
    }

    private static void likelyAndSure() {
        NinePortraits x = Due.court("bf7w0y0;ps2f0");
        due.is("of several the lowest", x.likely(0, 0), 0);
        due.is("its belief", x.likely(0, 1), 100000);
        x.paint(0, 0);
        due.is("likely", x.likely(0, 0), 7);
        due.is("its belief", x.likely(0, 1), 3000000 / 14);
        due.is("sure", x.sure(0, 3000000 / 14), 1);
        due.is("not so sure", x.sure(0, 3000000 / 14 + 1), 0);
        due.is("sure of 1 part", x.sure(0, 1), 1);
        due.is("not sure of all", x.sure(0, 1000000), 0);
        for (int f = 0; f < 10; f++) {
            NinePortraits z = Due.court("bf" + f + "w0y0;ps9");
            z.paint(0, 0);
            due.is("shown " + f, z.likely(0, 0), f);
        }
        NinePortraits y = Due.court("bf6w0y0;ps9f0");
        Due.law(y, "y:f/4*4");
        y.paint(0, 0);
        due.is("4 to 7 are shown alike", y.likely(0, 0), 4);
        y.letter(0);
        due.is("5 fits", y.likely(0, 0), 5);
        y.shoe(0);
        due.is("6 fits", y.likely(0, 0), 6);
    }

    private static void next() {
        NinePortraits x = Due.court("bf9w0y0;pk1;pk3;pk0;pk0;pk2");
        due.is("from life none are alike, the lowest", x.next(0), 2);
        NinePortraits v = Due.court("bf9w2y0;pk2;pk1;pk3;pk0;pk0");
        due.is("0 and 1 look alike, two at most by hearsay too", v.next(0), 1);
        NinePortraits w = Due.court("b;pk3;pk2;pk0");
        Due.law(w, "y:5");
        due.is("all are alike by all", w.next(0), 1);
        due.none("by all", w.apart(0));
        NinePortraits y = Due.court("b;pk3;pk3");
        due.none("none of such a kind", y.next(0));
        NinePortraits z = Due.court("bf8w0y0;pk1;pk2;pk3");
        due.is("three alike by the second, two by the first", z.next(0), 0);
        z.letter(0);
        due.is("of 5 .. 9 none alike by the second", z.next(0), 1);
        z.shoe(0);
        due.is("6 and 8 are told by the first too", z.next(0), 0);
    }

    private static void apart() {
        NinePortraits x = Due.court("bf8w0y0;pk1;pk2;pk3;pk0");
        due.is("from life", x.apart(0), 8);
        x.letter(0);
        due.is("of the mother", x.apart(0), 2);
        x.shoe(0);
        due.is("from hearsay", x.apart(0), 1);
        NinePortraits y = Due.court("bf8w0y0;pk1;pk2");
        due.none("0 and 1 are alike by both", y.apart(0));
        NinePortraits z = Due.court("b;pk3");
        due.none("none of such a kind", z.apart(0));
        NinePortraits t = Due.court("b;ps4;ps3;ps5");
        Due.law(t, "y:s=4?f/5;y:s=3?f-f/5*5;y:f");
        due.is("one is fewer than two", t.apart(0), 4);
        // Skills say which part of a face a painter sees: 4 the fives, 3 what is left, 2 a nine.
        NinePortraits w = Due.court("b;ps0;ps2;ps3;ps4;ps0k3");
        Due.law(w, "y:s=4?f/5;y:s=3?f-f/5*5;y:s=2?f/9;y:0");
        due.is("two tell all apart", w.apart(0), 12);
        NinePortraits v = Due.court("b;ps2;ps4;ps3;ps3;ps4");
        Due.law(v, "y:s=4?f/5;y:s=3?f-f/5*5;y:s=2?f/9;y:0");
        due.is("of several the least bits", v.apart(0), 6);
        NinePortraits u = Due.court("b;ps1;ps2;ps3;ps4");
        Due.law(u, "y:s=1?f-f/2*2;y:s=2?f/2-f/4*2;y:s=3?f/4-f/8*2;y:f/8");
        due.is("four are needed", u.apart(0), 15);
    }

    private static void bounds() {
        NinePortraits x = Due.court("b;b;p");
        for (int bride : new int[] {-1, 2, Integer.MIN_VALUE, Integer.MAX_VALUE}) {
            due.none("fits", x.fits(bride));
            due.none("belief", x.belief(bride, 0));
            due.none("likely", x.likely(bride, 0));
            due.none("sure", x.sure(bride, 1));
            due.none("next", x.next(bride));
            due.none("apart", x.apart(bride));
        }
        due.none("belief(0, 10)", x.belief(0, 10));
        due.none("belief(0, -1)", x.belief(0, -1));
        due.none("likely(0, 2)", x.likely(0, 2));
        due.none("likely(0, -1)", x.likely(0, -1));
        due.none("sure(0, 0)", x.sure(0, 0));
        due.none("sure(0, 1000001)", x.sure(0, 1000001));
        due.is("sure(1, 1000000)", x.sure(1, 1000000), 0);
    }
}
