/** Promises 31 to 36: worth, whom the king would choose, the game of houses, truth, the cheapest. */
final class ChoiceTest {
    private static final Due due = new Due("ChoiceTest");

    public static void main(String[] args) {
        worth();
        chooses();
        game();
        gameByLaw();
        rests();
        truth();
        cheapest();
        due.finish();
    }

    private static void worth() {
        NinePortraits x = Due.court("sf7d4;bd39;bd9;p");
        for (int f = 0; f < 10; f++) {
            due.is("worth(0, " + f + ")", x.worth(0, f), 7 * f + 12);
            due.is("worth(1, " + f + ")", x.worth(1, f), 7 * f);
        }
        due.none("worth(2, 0)", x.worth(2, 0));
        due.none("worth(-1, 0)", x.worth(-1, 0));
        due.none("worth(0, 10)", x.worth(0, 10));
        due.none("worth(0, -1)", x.worth(0, -1));
    }

    private static void chooses() {
        NinePortraits x = Due.court("sf5d3;bf2d30w0y7;bf6d20w9y0;bf1d39;ps9f0a0");
        due.is("by likely faces, none told", x.chooses(0), 0);
        due.is("by true faces", x.chooses(1), 1);
        due.is("by dowry alone, by tens, the lowest", x.chooses(2), 0);
        due.is("loss", x.chooses(3), 5 * 6 + 6 - (5 * 2 + 9));
        x.paint(0, 1);
        due.is("likely by shown 2", x.likely(1, 0), 6);
        due.is("by likely faces", x.chooses(0), 1);
        due.is("no loss", x.chooses(3), 0);
        x.letter(2);
        x.paint(0, 0);
        x.pay(0, -7);
        due.is("likely by shown 9", x.likely(0, 0), 9);
        due.is("flattered", x.chooses(0), 0);
        due.is("loss", x.chooses(3), 17);
        due.none("chooses(4)", x.chooses(4));
        due.none("chooses(-1)", x.chooses(-1));
        NinePortraits y = Due.court("sf0d0;bf1d1;bf9d99;p");
        due.is("nothing is wanted", y.chooses(0) + y.chooses(1) + y.chooses(2) + y.chooses(3), 0);
        NinePortraits z = Due.court("bd19;bd20;bd29;p");
        due.is("by dowry", z.chooses(2), 1);
    }

    private static void game() {
        NinePortraits x = Due.court("bf4w0;bf6w3;pa3;pa9k2");
        // Flattery is 1 less than what is paid by the first, the warts of the other take 1.
        due.is("4 against 5", x.game(0, 1, 0, 0, 0, 0), 0);
        due.is("5 against 4", x.game(0, 1, 0, 0, 0, 1), 6);
        due.is("5 against 5", x.game(0, 1, 0, 2, 0, 0), 2);
        due.is("5 against 5", x.game(0, 1, 0, 2, 0, 1), 3);
        due.is("6 against 5", x.game(0, 1, 0, 3, 0, 0), 5);
        due.is("6 against 5", x.game(0, 1, 0, 3, 0, 1), 0);
        due.is("9 against 9", x.game(0, 1, 0, 9, 9, 0), -1);
        due.is("turned round", x.game(1, 0, 0, 0, 3, 1), 5);
        due.is("looks, not what is shown", x.game(0, 1, 1, 5, 3, 0), 4);
        int none = -1000000;
        due.is("alike", x.game(0, 0, 0, 0, 0, 0), none);
        due.is("no such bride", x.game(0, 2, 0, 0, 0, 0), none);
        due.is("no such bride", x.game(-1, 1, 0, 0, 0, 0), none);
        due.is("no such painter", x.game(0, 1, 2, 0, 0, 0), none);
        due.is("no such painter", x.game(0, 1, -1, 0, 0, 0), none);
        due.is("x", x.game(0, 1, 0, 10, 0, 0), none);
        due.is("x", x.game(0, 1, 0, -1, 0, 0), none);
        due.is("y", x.game(0, 1, 0, 0, 10, 0), none);
        due.is("y", x.game(0, 1, 0, 0, -1, 0), none);
        due.is("what", x.game(0, 1, 0, 0, 0, 2), none);
        due.is("what", x.game(0, 1, 0, 0, 0, -1), none);
    }

    private static void gameByLaw() {
        NinePortraits x = Due.court("bf4w0y9;bf6w3y9;ps2a3");
        Due.law(x, "y:f+y/3-w+m*0+s-s");
        due.is("4 and 3 against 6 less 3", x.game(0, 1, 0, 9, 0, 0), 6 - 4);
        due.is("4 against 6 and 1 less 3", x.game(0, 1, 0, 0, 3, 0), 3);
        due.is("4 against 6 and 2 less 3", x.game(0, 1, 0, 0, 6, 1), 6 - 3);
    }

    private static void rests() {
        NinePortraits x = Due.court("bf0w0;bf9w0;bf0w0;pa9");
        // By a fear of 9 payments up to 3 do nothing: 0 against 9 needs twelve.
        due.is("how many", x.rests(0, 1, 0, -1), 4);
        int[] want = {0, 1, 10, 11};
        for (int i = 0; i < 4; i++) {
            due.is("the " + i + "-th", x.rests(0, 1, 0, i), want[i]);
        }
        due.none("no such one", x.rests(0, 1, 0, 4));
        due.none("no such one", x.rests(0, 1, 0, -2));
        due.none("no such bride", x.rests(0, 3, 0, -1));
        due.none("no such bride", x.rests(-1, 1, 0, -1));
        due.none("no such painter", x.rests(0, 1, 1, -1));
        due.none("no such painter", x.rests(0, 1, -1, -1));
        due.none("alike", x.rests(1, 1, 0, -1));
        NinePortraits z = Due.court("bf0w0;bf0w0;p");
        Due.law(z, "y:y=9?9;y:0");
        // Only 9 is of use: both gain nothing above 3 by it, and 2 against one who pays nothing.
        due.is("both pay nought or one", z.rests(0, 1, 0, -1), 4);
        due.is("0 and 0", z.rests(0, 1, 0, 0), 0);
        due.is("1 and 1", z.rests(0, 1, 0, 3), 11);
        NinePortraits w = Due.court("bf0w0;bf1w0;p");
        Due.law(w, "y:f=0&y=9?9;y:f=1&y=9?8;y:f");
        due.is("the one pays 9", w.rests(0, 1, 0, -1), 2);
        due.is("9 and 0", w.rests(0, 1, 0, 0), 90);
        due.is("9 and 1", w.rests(0, 1, 0, 1), 91);
        due.is("turned round", w.rests(1, 0, 0, 0), 9);
        NinePortraits y = Due.court("bf0w0;bf0w0;pa0");
        due.is("each would pay more or nothing", y.rests(0, 1, 0, -1), 0);
        due.none("not one", y.rests(0, 1, 0, 0));
    }

    private static void truth() {
        NinePortraits x = Due.court("by5;by9;by0;by3;pa3;pa6;pa0;pa5");
        int[][] want = {{0, 1, 0, 1}, {0, 1, 0, 1}, {1, 1, 1, 1}, {0, 0, 0, 1}};
        for (int bride = 0; bride < 4; bride++) {
            for (int painter = 0; painter < 4; painter++) {
                due.is("truth(" + painter + ", " + bride + ")", x.truth(painter, bride), want[bride][painter]);
            }
        }
        x.threaten(0);
        due.is("by 4 times 4 by 3", x.truth(0, 0), 1);
        due.none("truth(4, 0)", x.truth(4, 0));
        due.none("truth(0, 4)", x.truth(0, 4));
        due.none("truth(-1, 0)", x.truth(-1, 0));
        due.none("truth(0, -1)", x.truth(0, -1));
    }

    private static void cheapest() {
        NinePortraits x = Due.court("b;b;b;b;pf9;pf2;pf30;pf2;pf2");
        due.is("one", x.cheapest(1, 0), 2);
        due.is("one", x.cheapest(4, 1), 1);
        due.is("two", x.cheapest(5, 0), 4);
        due.is("two", x.cheapest(5, 1), 13);
        due.is("three", x.cheapest(14, 0), 6);
        due.is("three", x.cheapest(14, 1), 134);
        due.is("four", x.cheapest(15, 0), 15);
        due.is("four", x.cheapest(15, 1), 134);
        due.none("no bride", x.cheapest(0, 0));
        due.none("no such bride", x.cheapest(16, 0));
        due.none("no such bride", x.cheapest(17, 1));
        due.none("below", x.cheapest(-1, 0));
        due.none("far below", x.cheapest(Integer.MIN_VALUE, 0));
        due.none("what", x.cheapest(1, 2));
        due.none("what", x.cheapest(1, -1));
        NinePortraits y = Due.court("b;b;b;b;b;b;p;p;p;p;p");
        due.is("five", y.cheapest(31, 1), 1234);
        due.is("five", y.cheapest(62, 0), 25);
        due.none("too few", y.cheapest(63, 0));
        due.none("beyond", y.cheapest(64, 0));
    }
}
