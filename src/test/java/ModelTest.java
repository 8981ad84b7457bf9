import java.util.List;
import java.util.Random;

/** Long runs of calls drawn by lot, each answer against the model's. */
final class ModelTest {
    private static final Due due = new Due("ModelTest");
    private static final int RUNS = 400;
    private static final int CALLS = 500;
    private static Random lot;
    private static NinePortraits x;
    private static Model m;

    public static void main(String[] args) {
        for (int run = 0; run < RUNS && due.wrong() == 0; run++) {
            lot = new Random(run);
            x = new NinePortraits();
            m = new Model();
            takeText(0);
            for (int call = 0; call < CALLS && due.wrong() == 0; call++) {
                step(run + "/" + call + " ");
            }
        }
        due.finish();
    }

    private static int upTo(int n) {
        return lot.nextInt(n + 1);
    }

    /** Mostly within 0 .. n - 1, at times just beside it or far off. */
    private static int near(int n) {
        int v = lot.nextInt(24);
        return v == 0 ? -1 : v == 1 ? n : v == 2 ? lot.nextInt() : lot.nextInt(Math.max(1, n));
    }

    private static void takeText(int sort) {
        m.tape = "";
        x.end(0);
        m.tape = sort == 0 ? Texts.court(lot) : Texts.law(lot);
        Due.feed(x, m.tape);
        due.is("text(" + sort + ") of <" + m.tape + ">", x.text(sort), m.text(sort));
    }

    /** Another court is read, and is no court by its last sign. */
    private static void readOnly() {
        x.end(0);
        m.tape = Texts.court(lot) + ";";
        Due.feed(x, m.tape);
        due.is("fault(0) of <" + m.tape + ">", x.fault(0), m.tape.length());
        due.is("text(0) of <" + m.tape + ">", x.text(0), -1);
    }

    private static void step(String where) {
        int kind = lot.nextInt(103);
        if (kind >= 100) {
            readOnly();
        } else if (kind < 1) {
            takeText(0);
        } else if (kind < 4) {
            takeText(1);
        } else if (kind < 8) {
            int law = upTo(5) - 1;
            boolean good = law < m.laws.size();
            if (good) {
                m.holds = law;
            }
            due.is(where + "law(" + law + ")", x.law(law), good);
        } else if (kind < 55) {
            act(where);
        } else {
            ask(where);
        }
    }

    private static void act(String where) {
        int bride = near(m.brides.length);
        int painter = near(m.painters.length);
        int n = near(61);
        switch (lot.nextInt(18)) {
            case 0, 1, 2, 3, 4 -> due.is(where + "paint", x.paint(painter, bride), m.paint(painter, bride));
            case 5, 6 -> {
                int more = lot.nextInt(12) == 0 ? n : upTo(8) - 4;
                due.is(where + "pay", x.pay(bride, more), m.pay(bride, more));
            }
            case 7 -> due.is(where + "threaten", x.threaten(painter), m.threaten(painter));
            case 8 -> due.is(where + "letter", x.letter(bride), m.ask(bride, true));
            case 9 -> due.is(where + "shoe", x.shoe(bride), m.ask(bride, false));
            case 10 -> due.is(where + "wed", x.wed(bride), m.wed(bride));
            case 11 -> due.is(where + "annul", x.annul(), m.annul());
            case 12 -> {
                int some = lot.nextInt(4) == 0 ? n : upTo(4);
                due.is(where + "months", x.months(some), m.months(some));
            }
            case 13 -> {
                int v = near(10);
                boolean good = v >= 0 && v <= 9 && v != m.bribes;
                if (good) {
                    m.bribes = v;
                }
                due.is(where + "bribes", x.bribes(v), good);
            }
            case 14 -> {
                long seed = lot.nextLong();
                int some = lot.nextInt(4) == 0 ? n : upTo(4);
                due.is(where + "decades", x.decades(some, seed), m.decades(some, seed));
            }
            case 15 -> {
                for (int i = upTo(6); i >= 0; i--) {
                    due.is(where + "undo", x.undo(), m.undo());
                }
            }
            case 16 -> {
                m.image = m.has ? m.now.copy() : null;
                due.is(where + "image", x.image(), m.has ? m.now.month : -1);
            }
            default -> {
                if (m.image != null && lot.nextInt(3) == 0) {
                    m.now = m.image.copy();
                    m.acts.clear();
                    due.is(where + "back", x.back(), m.now.month);
                }
            }
        }
        state(where);
    }

    private static void state(String where) {
        int[] counts = {m.brides.length, m.painters.length, m.laws.size(), m.tape.length(), m.holds, m.now.month,
            m.now.wed, m.now.portraits.size(), m.bribes, m.acts.size()};
        for (int what = 0; what < counts.length; what++) {
            due.is(where + "count " + what, x.count(what), counts[what]);
        }
        for (int what = 0; what < 5; what++) {
            due.is(where + "status " + what, x.status(what), m.status[what]);
        }
        due.is(where + "purse", x.rule(0), m.has ? m.now.purse : -1);
        for (int i = 0; i < m.brides.length; i++) {
            due.is(where + "pays", x.bride(i, 3), m.now.pays[i]);
            due.is(where + "letter", x.bride(i, 4), m.now.letters[i] ? 1 : 0);
            due.is(where + "shoe", x.bride(i, 5), m.now.shoes[i] ? 1 : 0);
        }
        for (int i = 0; i < m.painters.length; i++) {
            due.is(where + "fear", x.painter(i, 2), m.now.fears[i]);
        }
        for (int i = 0; i < 21; i++) {
            for (int what = 0; what < 4; what++) {
                due.is(where + "portrait", x.portrait(i, what), m.portrait(i, what));
            }
        }
    }

    private static void ask(String where) {
        int b = near(m.brides.length);
        int o = near(m.brides.length);
        int p = near(m.painters.length);
        int v = near(10);
        int w = near(10);
        boolean isB = m.b(b);
        boolean isP = m.p(p);
        boolean isV = v >= 0 && v <= 9;
        switch (lot.nextInt(22)) {
            case 0 -> due.is(where + "flattery", x.flattery(p, b), isB && isP ? m.flattery(p, m.now.pays[b]) : -1);
            case 1 -> due.is(where + "shown", x.shown(p, b, v), isB && isP && isV ? m.shown(p, b, v) : -1);
            case 2 -> due.is(where + "fits", x.fits(b), isB ? m.fits(b) : -1);
            case 3 -> due.is(where + "belief", x.belief(b, v), isB && isV ? m.belief(b, v) : -1);
            case 4 -> {
                due.is(where + "likely 0", x.likely(b, 0), isB ? m.likely(b) : -1);
                due.is(where + "likely 1", x.likely(b, 1), isB ? m.belief(b, m.likely(b)) : -1);
            }
            case 5 -> {
                int t = isB ? m.belief(b, m.likely(b)) + upTo(2) - 1 : 1;
                boolean good = t >= 1 && t <= 1000000;
                int want = !isB || !good ? -1 : m.belief(b, m.likely(b)) >= t ? 1 : 0;
                due.is(where + "sure", x.sure(b, t), want);
            }
            case 6 -> due.is(where + "next", x.next(b), isB ? m.next(b) : -1);
            case 7, 8 -> due.is(where + "apart", x.apart(b), isB ? m.apart(b) : -1);
            case 9 -> due.is(where + "worth", x.worth(b, v), isB && isV ? m.worth(b, v) : -1);
            case 10 -> {
                int what = near(4);
                due.is(where + "chooses", x.chooses(what), m.has && what >= 0 && what < 4 ? m.chooses(what) : -1);
            }
            case 11 -> {
                boolean good = isB && m.b(o) && b != o && isP && isV && w >= 0 && w <= 9;
                int what = upTo(1);
                due.is(where + "game", x.game(b, o, p, v, w, what), good ? m.game(b, o, p, v, w, what) : -1000000);
            }
            case 12 -> rests(where, b, o, p);
            case 13 -> due.is(where + "truth", x.truth(p, b), isB && isP ? m.truth(p, b) : -1);
            case 14 -> {
                int set = near(1 << m.brides.length);
                boolean good = set >= 1 && set < 1 << m.brides.length;
                due.is(where + "cheapest 0 of " + set, x.cheapest(set, 0), good ? m.cheapest(set, 0) : -1);
                due.is(where + "cheapest 1 of " + set, x.cheapest(set, 1), good ? m.cheapest(set, 1) : -1);
            }
            case 15 -> due.is(where + "looks", x.looks(b), isB ? m.looks(b) : -1000000);
            case 16 -> whose(where, p, v);
            case 17 -> {
                int n = near(21);
                int chance = near(101);
                boolean good = isP && n >= 0 && n <= 20 && chance >= 0 && chance <= 100;
                due.is(where + "heads", x.heads(p, n, chance), good ? m.heads(p, n, chance) : -1);
            }
            case 18 -> due.is(where + "matched", x.matched(b), isB ? m.matched(b) : -1);
            case 19 -> {
                int what = near(5);
                due.is(where + "most", x.most(what), m.has && what >= 0 && what < 5 ? m.most(what) : -1);
            }
            case 20 -> due.is(where + "told", x.told(p), isP ? m.told(p) : -1000000);
            default -> small(where, b, p);
        }
    }

    private static void rests(String where, int one, int other, int painter) {
        boolean good = m.b(one) && m.b(other) && one != other && m.p(painter);
        List<Integer> want = good ? m.rests(one, other, painter) : List.of();
        due.is(where + "rests", x.rests(one, other, painter, -1), good ? want.size() : -1);
        for (int i = 0; i <= want.size(); i++) {
            due.is(where + "rests " + i, x.rests(one, other, painter, i), i < want.size() ? want.get(i) : -1);
        }
    }

    private static void whose(String where, int painter, int v) {
        int want = 0;
        for (int i = 0; m.p(painter) && i < m.brides.length; i++) {
            want |= m.shown(painter, i, m.brides[i][0]) == v ? 1 << i : 0;
        }
        due.is(where + "whose", x.whose(painter, v), m.p(painter) && v >= 0 && v <= 9 ? want : -1);
    }

    private static void small(String where, int b, int p) {
        int seen = 0;
        int rivals = 0;
        for (Model.Portrait q : m.now.portraits) {
            seen += q.bride == b ? 1 : 0;
        }
        for (int i = 0; m.b(b) && i < m.brides.length; i++) {
            rivals |= m.trueWorth(i) > m.trueWorth(b) ? 1 << i : 0;
        }
        due.is(where + "seen", x.seen(b), m.b(b) ? seen : -1);
        due.is(where + "rivals", x.rivals(b), m.b(b) ? rivals : -1);
        int n = near(1000);
        due.is(where + "saves", x.saves(n), m.has && n >= 1 && n <= 999 ? Math.max(0, n - m.now.purse) : -1);
        int affords = 0;
        for (int purse = m.now.purse; m.p(p) && affords < 20 - m.now.portraits.size(); affords++) {
            purse -= m.painters[p][1];
            if (purse < 0) {
                break;
            }
        }
        due.is(where + "affords", x.affords(p), m.p(p) ? affords : -1);
    }
}
