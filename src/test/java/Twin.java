import java.util.function.Consumer;
import java.util.function.ToLongFunction;

/** Leads two new objects the same way, lets one of them answer a call more, and compares all that they tell. */
final class Twin {
    private static final int NO_STATUS = -1;
    private final Due due;
    private final String name;
    private final Consumer<NinePortraits> way;

    Twin(Due due, String name, Consumer<NinePortraits> way) {
        this.due = due;
        this.name = name;
        this.way = way;
    }

    /** The call answers so, is counted once by that STATUS, and changes nothing else. */
    void refuses(String call, ToLongFunction<NinePortraits> made, long answer, int status) {
        NinePortraits plain = new NinePortraits();
        NinePortraits asked = new NinePortraits();
        way.accept(plain);
        way.accept(asked);
        String label = name + ": " + call;
        due.is(label, made.applyAsLong(asked), answer);
        for (int what = 0; what < 5; what++) {
            due.is(label + ", then status(" + what + ")", asked.status(what),
                plain.status(what) + (what == status ? 1 : 0));
        }
        String before = all(plain);
        String after = all(asked);
        due.is(label + " changed <" + before + "> to <" + after + ">", after.equals(before), true);
    }

    /** The call answers so and changes nothing at all. */
    void answers(String call, ToLongFunction<NinePortraits> made, long answer) {
        refuses(call, made, answer, NO_STATUS);
    }

    void answers(String call, boolean want, java.util.function.Predicate<NinePortraits> made) {
        refuses(call, x -> made.test(x) ? 1 : 0, want ? 1 : 0, NO_STATUS);
    }

    /** Both throw NoSuchElementException, and nothing is changed. */
    void throwsFor(int bride, int what) {
        refuses("bride(" + bride + ", " + what + ") throws", x -> {
            try {
                return x.bride(bride, what);
            } catch (java.util.NoSuchElementException e) {
                return e.getClass() == java.util.NoSuchElementException.class ? 777 : 778;
            }
        }, 777, NO_STATUS);
    }

    /** What is there now, and what undone acts, the image and the tape bring up again. */
    private static String all(NinePortraits x) {
        StringBuilder told = new StringBuilder();
        for (int what = 0; what < 10; what++) {
            told.append(x.count(what)).append(' ');
        }
        told.append(x.fault(0)).append(' ').append(x.fault(1)).append(" c");
        court(told, x);
        told.append(" n ").append(Due.all(x));
        told.append(" u ").append(x.undo()).append(' ').append(Due.all(x));
        for (int i = 0; i < 40 && x.undo() >= 0; i++) {
            told.append('.');
        }
        told.append(" o ").append(Due.all(x));
        told.append(" i ").append(x.back()).append(' ').append(Due.all(x));
        told.append(" t ").append(x.text(1)).append(' ').append(x.text(0));
        court(told, x);
        return told.toString();
    }

    /** What every question is answered; some 150 calls with three brides and four painters. */
    static String answers(NinePortraits x) {
        StringBuilder told = new StringBuilder();
        court(told, x);
        for (int bride = 0; bride < x.count(0); bride++) {
            int[] each = {x.fits(bride), x.belief(bride, 3), x.likely(bride, 0), x.likely(bride, 1), x.sure(bride, 9),
                x.next(bride), x.apart(bride), x.worth(bride, 4), x.looks(bride), x.matched(bride), x.seen(bride),
                x.rivals(bride)};
            told.append(java.util.Arrays.toString(each));
        }
        for (int painter = 0; painter < x.count(1); painter++) {
            int[] each = {x.flattery(painter, 0), x.shown(painter, 1, 2), x.game(0, 1, painter, 3, 4, 0),
                x.game(1, 0, painter, 5, 2, 1), x.rests(0, 1, painter, -1), x.rests(0, 1, painter, 0),
                x.truth(painter, 0), x.whose(painter, 7), x.whose(painter, 8), x.whose(painter, 9),
                x.heads(painter, 3, 45), x.affords(painter), x.told(painter)};
            told.append(java.util.Arrays.toString(each));
        }
        for (int what = 0; what < 5; what++) {
            told.append(' ').append(x.chooses(what)).append(' ').append(x.most(what));
        }
        for (int set = 0; set < 9; set++) {
            told.append(' ').append(x.cheapest(set, 0)).append(' ').append(x.cheapest(set, 1));
        }
        return told.append(Due.all(x)).toString();
    }

    private static void court(StringBuilder told, NinePortraits x) {
        for (int what = 0; what < 3; what++) {
            told.append(' ').append(x.rule(what));
        }
        for (int bride = 0; bride < x.count(0); bride++) {
            told.append(" b");
            for (int what = 0; what < 3; what++) {
                told.append(' ').append(x.bride(bride, what));
            }
        }
        for (int painter = 0; painter < x.count(1); painter++) {
            told.append(" p").append(x.painter(painter, 0)).append(' ').append(x.painter(painter, 1));
            told.append(x.painter(painter, 3)).append(x.shown(painter, 0, 4));
        }
    }
}
