import java.math.BigInteger;
import java.util.ArrayDeque;
import java.util.ArrayList;
import java.util.Arrays;
import java.util.List;

/** The document once more, in the plainest way that the whole Java library allows. */
final class Model {
    static final class Portrait {
        final int bride;
        final int painter;
        final int shows;
        final int month;

        Portrait(int bride, int painter, int shows, int month) {
            this.bride = bride;
            this.painter = painter;
            this.shows = shows;
            this.month = month;
        }
    }

    static final class Now {
        int[] pays = {};
        int[] fears = {};
        boolean[] letters = {};
        boolean[] shoes = {};
        List<Portrait> portraits = new ArrayList<>();
        int wed = -1;
        int purse;
        int month;

        Now copy() {
            Now c = new Now();
            c.pays = pays.clone();
            c.fears = fears.clone();
            c.letters = letters.clone();
            c.shoes = shoes.clone();
            c.portraits = new ArrayList<>(portraits);
            c.wed = wed;
            c.purse = purse;
            c.month = month;
            return c;
        }
    }

    int[][] brides = {};
    int[][] painters = {};
    int[] rules = {0, 0, 0};
    boolean has;
    final List<String> laws = new ArrayList<>();
    int holds = -1;
    int bribes;
    final int[] status = new int[5];
    Now now = new Now();
    Now image;
    final ArrayDeque<Now> acts = new ArrayDeque<>();
    String tape = "";

    // ---- texts ----

    int text(int sort) {
        if (sort == 1) {
            if (Grammar.lawFault(tape) != -1 || laws.size() == 4) {
                return -1;
            }
            laws.add(tape.replace(" ", ""));
            tape = "";
            return laws.size() - 1;
        }
        if (sort != 0 || Grammar.courtFault(tape) != -1) {
            return -1;
        }
        List<int[]> b = new ArrayList<>();
        List<int[]> p = new ArrayList<>();
        rules = new int[] {40, 5, 3};
        for (String clause : tape.replace(" ", "").split(";")) {
            switch (clause.charAt(0)) {
                case 's' -> fill(clause, "pfd", rules);
                case 'b' -> b.add(fill(clause, "fdwy", new int[] {5, 20, 1, 2}));
                default -> p.add(fill(clause, "sfak", new int[] {5, 5, 3, 0}));
            }
        }
        tape = "";
        brides = b.toArray(new int[0][]);
        painters = p.toArray(new int[0][]);
        has = true;
        now = new Now();
        now.pays = b.stream().mapToInt(x -> x[3]).toArray();
        now.fears = p.stream().mapToInt(x -> x[2]).toArray();
        now.letters = new boolean[brides.length];
        now.shoes = new boolean[brides.length];
        now.purse = rules[0];
        image = null;
        acts.clear();
        return brides.length;
    }

    private static int[] fill(String clause, String letters, int[] row) {
        java.util.regex.Matcher m = java.util.regex.Pattern.compile("([a-z])([0-9]+)").matcher(clause.substring(1));
        while (m.find()) {
            row[letters.indexOf(m.group(1))] = Integer.parseInt(m.group(2));
        }
        return row;
    }

    // ---- laws, walked along their text ----

    private String law;
    private int at;
    private int[] env;

    private int lawWorth(String text, int[] letters) {
        env = letters;
        for (String clause : text.split(";")) {
            law = clause.substring(2);
            at = 0;
            boolean holdsNow = true;
            if (law.contains("?")) {
                holdsNow = condition();
                at++;
            }
            if (holdsNow) {
                return (int) sum();
            }
        }
        return 0;
    }

    private char look() {
        return at < law.length() ? law.charAt(at) : 0;
    }

    private boolean condition() {
        boolean value = truth();
        while (look() == '|') {
            at++;
            value |= truth();
        }
        return value;
    }

    private boolean truth() {
        boolean value = unit();
        while (look() == '&') {
            at++;
            value &= unit();
        }
        return value;
    }

    private boolean unit() {
        if (look() == '!') {
            at++;
            return !unit();
        }
        if (look() == '(') {
            at++;
            boolean value = condition();
            at++;
            return value;
        }
        long left = sum();
        char sign = look();
        at++;
        long right = sum();
        return sign == '=' ? left == right : sign == '<' ? left < right : left > right;
    }

    private static long held(long v) {
        return Math.max(-1000000, Math.min(1000000, v));
    }

    private long sum() {
        long value = term();
        while (look() == '+' || look() == '-') {
            boolean plus = look() == '+';
            at++;
            long next = term();
            value = held(plus ? value + next : value - next);
        }
        return value;
    }

    private long term() {
        long value = atom();
        while (look() == '*' || look() == '/') {
            boolean times = look() == '*';
            at++;
            long next = atom();
            value = held(times ? value * next : next == 0 ? 0 : value / next);
        }
        return value;
    }

    private long atom() {
        if (look() == '[') {
            at++;
            long value = sum();
            at++;
            return value;
        }
        int letter = "fwysam".indexOf(look());
        if (letter >= 0) {
            at++;
            return env[letter];
        }
        long value = 0;
        while (Character.isDigit(look())) {
            value = 10 * value + look() - '0';
            at++;
        }
        return value;
    }

    // ---- what is shown ----

    boolean b(int bride) {
        return bride >= 0 && bride < brides.length;
    }

    boolean p(int painter) {
        return painter >= 0 && painter < painters.length;
    }

    int flattery(int painter, int pays) {
        return Math.max(0, pays - now.fears[painter] / 3);
    }

    int look(int painter, int bride, int f, int pays) {
        int v;
        if (holds == -1) {
            v = f + flattery(painter, pays) - brides[bride][2] / 2;
        } else {
            v = lawWorth(laws.get(holds), new int[] {f, brides[bride][2], pays, painters[painter][0],
                now.fears[painter], now.month});
        }
        return Math.max(0, Math.min(9, v));
    }

    int shown(int painter, int bride, int f) {
        int look = look(painter, bride, f, now.pays[bride]);
        int kind = painters[painter][3];
        if (kind == 3) {
            for (Portrait q : now.portraits) {
                if (q.painter == painter) {
                    look = q.shows;
                }
            }
        }
        return kind == 1 ? (look + 7) / 2 : kind == 2 ? Math.max(0, look - 2) : look;
    }

    // ---- acts ----

    void keep() {
        acts.push(now.copy());
        if (acts.size() > 40) {
            acts.removeLast();
        }
    }

    int no(int why) {
        status[why]++;
        return -1;
    }

    int paint(int painter, int bride) {
        if (!p(painter) || !b(bride)) {
            return no(0);
        }
        if (now.purse < painters[painter][1]) {
            return no(2);
        }
        if (now.portraits.size() == 20) {
            return no(4);
        }
        keep();
        return hang(painter, bride);
    }

    private int hang(int painter, int bride) {
        int shows = shown(painter, bride, brides[bride][0]);
        now.portraits.add(new Portrait(bride, painter, shows, now.month));
        now.purse -= painters[painter][1];
        return shows;
    }

    int pay(int bride, int n) {
        if (!b(bride)) {
            return no(0);
        }
        if (n == 0 || n < -9 || n > 9 || now.pays[bride] + n < 0 || now.pays[bride] + n > 9) {
            return no(1);
        }
        keep();
        return now.pays[bride] += n;
    }

    int threaten(int painter) {
        if (!p(painter)) {
            return no(0);
        }
        if (now.fears[painter] == 9) {
            return no(1);
        }
        keep();
        return ++now.fears[painter];
    }

    int ask(int bride, boolean letter) {
        if (!b(bride)) {
            return no(0);
        }
        boolean[] asked = letter ? now.letters : now.shoes;
        if (asked[bride]) {
            return no(1);
        }
        if (now.purse < (letter ? 2 : 1)) {
            return no(2);
        }
        keep();
        (letter ? now.letters : now.shoes)[bride] = true;
        now.purse -= letter ? 2 : 1;
        return letter ? (brides[bride][0] >= 5 ? 1 : 0) : brides[bride][0] % 2;
    }

    int wed(int bride) {
        if (!b(bride)) {
            return no(0);
        }
        if (now.wed != -1) {
            return no(3);
        }
        keep();
        now.wed = bride;
        return now.purse = Math.min(999, now.purse + brides[bride][1] / 10);
    }

    int annul() {
        if (!has) {
            return no(0);
        }
        if (now.wed == -1) {
            return no(3);
        }
        int more = looks(now.wed);
        if (more == -1000000 || more < 3) {
            return no(4);
        }
        keep();
        int was = now.wed;
        now.wed = -1;
        return was;
    }

    int months(int n) {
        if (!has) {
            return no(0);
        }
        if (n < 1 || n > 60) {
            return no(1);
        }
        if (now.month + n > 999) {
            return no(4);
        }
        for (int i = 0; i < n; i++) {
            keep();
            pass();
        }
        return now.month;
    }

    private void pass() {
        now.month++;
        now.purse = Math.min(999, now.purse + 1);
    }

    private BigInteger x;

    private int draw(int j) {
        x = x.multiply(new BigInteger("6364136223846793005")).add(new BigInteger("1442695040888963407"))
            .mod(BigInteger.TWO.pow(64));
        return x.shiftRight(33).mod(BigInteger.valueOf(j)).intValue();
    }

    int decades(int n, long seed) {
        if (!has || n < 1 || n > 60 || now.month + n > 999) {
            return -1;
        }
        x = BigInteger.valueOf(seed).mod(BigInteger.TWO.pow(64));
        for (int i = 0; i < n; i++) {
            keep();
            int painter = draw(painters.length);
            int bride = draw(brides.length);
            if (now.purse >= painters[painter][1] && now.portraits.size() < 20) {
                hang(painter, bride);
            }
            if (draw(10) < bribes) {
                int paid = draw(brides.length);
                now.pays[paid] = Math.min(9, now.pays[paid] + 1);
            }
            pass();
        }
        return now.month;
    }

    int undo() {
        if (acts.isEmpty()) {
            return -1;
        }
        now = acts.pop();
        return acts.size();
    }

    int portrait(int i, int what) {
        if (i < 0 || i >= now.portraits.size() || what < 0 || what > 3) {
            return -1;
        }
        Portrait q = now.portraits.get(now.portraits.size() - 1 - i);
        return new int[] {q.bride, q.painter, q.shows, q.month}[what];
    }

    // ---- what is told ----

    int fits(int bride) {
        int bits = 0;
        for (int f = 0; f < 10; f++) {
            boolean letter = !now.letters[bride] || f >= 5 == brides[bride][0] >= 5;
            boolean shoe = !now.shoes[bride] || f % 2 == brides[bride][0] % 2;
            bits |= letter && shoe ? 1 << f : 0;
        }
        return bits;
    }

    private BigInteger weight(int bride, int f) {
        if ((fits(bride) >> f & 1) == 0) {
            return BigInteger.ZERO;
        }
        List<Portrait> those = new ArrayList<>();
        for (Portrait q : now.portraits) {
            if (q.bride == bride && painters[q.painter][3] != 3) {
                those.add(q);
            }
        }
        those = those.subList(Math.max(0, those.size() - 12), those.size());
        BigInteger product = BigInteger.ONE;
        for (Portrait q : those) {
            int far = Math.abs(shown(q.painter, bride, f) - q.shows);
            product = product.multiply(BigInteger.valueOf(Math.max(1, 1 + painters[q.painter][0] - far)));
        }
        return product;
    }

    int belief(int bride, int f) {
        BigInteger sum = BigInteger.ZERO;
        for (int g = 0; g < 10; g++) {
            sum = sum.add(weight(bride, g));
        }
        return weight(bride, f).multiply(BigInteger.valueOf(1000000)).divide(sum).intValueExact();
    }

    int likely(int bride) {
        int best = 0;
        for (int f = 1; f < 10; f++) {
            if (belief(bride, f) > belief(bride, best)) {
                best = f;
            }
        }
        return best;
    }

    int next(int bride) {
        int best = -1;
        int least = 99;
        for (int q = 0; q < painters.length; q++) {
            int most = 0;
            for (int v = 0; v < 10; v++) {
                int alike = 0;
                for (int f = 0; f < 10; f++) {
                    alike += (fits(bride) >> f & 1) == 1 && shown(q, bride, f) == v ? 1 : 0;
                }
                most = Math.max(most, alike);
            }
            if (painters[q][3] != 3 && most < least) {
                least = most;
                best = q;
            }
        }
        return best;
    }

    int apart(int bride) {
        for (int size = 0; size <= painters.length; size++) {
            for (int set = 0; set < 1 << painters.length; set++) {
                if (Integer.bitCount(set) == size && allApart(bride, set)) {
                    return set;
                }
            }
        }
        return -1;
    }

    private boolean allApart(int bride, int set) {
        java.util.Set<String> views = new java.util.HashSet<>();
        for (int f = 0; f < 10; f++) {
            if ((fits(bride) >> f & 1) == 0) {
                continue;
            }
            StringBuilder view = new StringBuilder();
            for (int q = 0; q < painters.length; q++) {
                if ((set >> q & 1) == 1) {
                    if (painters[q][3] == 3) {
                        return false;
                    }
                    view.append(shown(q, bride, f)).append(' ');
                }
            }
            if (!views.add(view.toString())) {
                return false;
            }
        }
        return true;
    }

    int worth(int bride, int f) {
        return f * rules[1] + brides[bride][1] / 10 * rules[2];
    }

    int trueWorth(int bride) {
        return worth(bride, brides[bride][0]);
    }

    int chooses(int what) {
        if (what == 3) {
            return trueWorth(chooses(1)) - trueWorth(chooses(0));
        }
        int[] worths = new int[brides.length];
        for (int i = 0; i < worths.length; i++) {
            worths[i] = what == 0 ? worth(i, likely(i)) : what == 1 ? trueWorth(i) : brides[i][1] / 10 * rules[2];
        }
        return firstOfMost(worths);
    }

    static int firstOfMost(int[] row) {
        int most = Arrays.stream(row).max().getAsInt();
        for (int i = 0; i < row.length; i++) {
            if (row[i] == most) {
                return i;
            }
        }
        return -1;
    }

    int game(int one, int other, int painter, int x1, int y1, int what) {
        int a = look(painter, one, brides[one][0], x1);
        int c = look(painter, other, brides[other][0], y1);
        int won = Integer.compare(a, c) * 3 + 3;
        return what == 0 ? won - x1 / 2 : 6 - won - y1 / 2;
    }

    List<Integer> rests(int one, int other, int painter) {
        int[][][] has2 = new int[10][10][2];
        for (int i = 0; i < 100; i++) {
            has2[i / 10][i % 10][0] = game(one, other, painter, i / 10, i % 10, 0);
            has2[i / 10][i % 10][1] = game(one, other, painter, i / 10, i % 10, 1);
        }
        List<Integer> found = new ArrayList<>();
        for (int i = 0; i < 100; i++) {
            boolean rest = true;
            for (int j = 0; j < 10; j++) {
                rest &= has2[j][i % 10][0] <= has2[i / 10][i % 10][0];
                rest &= has2[i / 10][j][1] <= has2[i / 10][i % 10][1];
            }
            if (rest) {
                found.add(i);
            }
        }
        return found;
    }

    int truth(int painter, int bride) {
        return now.pays[bride] <= now.fears[painter] * flattery(painter, now.pays[bride]) / 3 ? 1 : 0;
    }

    int cheapest(int set, int what) {
        int best = Integer.MAX_VALUE;
        int row = -1;
        int k = Integer.bitCount(set);
        int rows = (int) Math.pow(10, k);
        for (int r = 0; r < rows; r++) {
            int fees = 0;
            int used = 0;
            int left = r;
            for (int i = 0; i < k; i++, left /= 10) {
                int q = left % 10;
                if (q >= painters.length || (used >> q & 1) == 1) {
                    used = -1;
                    break;
                }
                used |= 1 << q;
                fees += painters[q][1];
            }
            if (used != -1 && fees < best) {
                best = fees;
                row = r;
            }
        }
        return row == -1 ? -1 : what == 0 ? best : row;
    }

    int looks(int bride) {
        int sum = 0;
        int n = 0;
        for (Portrait q : now.portraits) {
            if (q.bride == bride) {
                sum += q.shows;
                n++;
            }
        }
        return n == 0 ? -1000000 : sum / n - brides[bride][0];
    }

    /** Brides ask in turn; a painter keeps whom it likes best of those who asked. */
    int matched(int bride) {
        int[] of = new int[painters.length];
        Arrays.fill(of, -1);
        boolean[][] asked = new boolean[brides.length][painters.length];
        boolean moved = true;
        while (moved) {
            moved = false;
            for (int i = brides.length - 1; i >= 0; i--) {
                int free = i;
                if (Arrays.stream(of).anyMatch(v -> v == free)) {
                    continue;
                }
                int best = -1;
                for (int q = 0; q < painters.length; q++) {
                    if (!asked[i][q] && (best == -1 || painters[q][1] < painters[best][1])) {
                        best = q;
                    }
                }
                if (best == -1) {
                    continue;
                }
                asked[i][best] = true;
                moved = true;
                int rival = of[best];
                if (rival == -1 || now.pays[i] > now.pays[rival] || now.pays[i] == now.pays[rival] && i < rival) {
                    of[best] = i;
                }
            }
        }
        for (int q = 0; q < of.length; q++) {
            if (of[q] == bride) {
                return q;
            }
        }
        return -1;
    }

    int heads(int painter, int n, int chance) {
        BigInteger left = BigInteger.valueOf(1000000000);
        int each = now.fears[painter] > 5 ? chance / 2 : chance;
        for (int i = 0; i < n; i++) {
            left = left.subtract(left.multiply(BigInteger.valueOf(each)).divide(BigInteger.valueOf(100)));
        }
        return left.intValueExact();
    }

    int most(int what) {
        int plain = 0;
        int lies = 0;
        for (int i = 0; i < brides.length; i++) {
            plain |= likely(i) < 5 ? 1 << i : 0;
        }
        for (Portrait q : now.portraits) {
            lies += Math.abs(q.shows - brides[q.bride][0]);
        }
        return switch (what) {
            case 0 -> plain;
            case 1 -> firstOfMost(Arrays.stream(brides).mapToInt(v -> v[1]).toArray());
            case 2 -> firstOfMost(Arrays.stream(brides).mapToInt(v -> v[0]).toArray());
            case 3 -> firstOfMost(Arrays.stream(painters).mapToInt(v -> -v[1]).toArray());
            default -> lies;
        };
    }

    int told(int painter) {
        int sum = 0;
        boolean any = false;
        for (Portrait q : now.portraits) {
            if (q.painter == painter) {
                any = true;
                sum += q.shows - brides[q.bride][0];
            }
        }
        return any ? sum : -1000000;
    }
}
