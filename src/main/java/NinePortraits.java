import java.util.Arrays;
import java.util.NoSuchElementException;

/** A king far off who chooses by portraits; ../shared/DOC.md says what each call answers. */
public final class NinePortraits {
    public static final int NONE = -1;
    public static final int HIDDEN = -1000000;

    private static final int NO_SUCH_SORT = -2;
    private static final int COURT_SORT = 0;
    private static final int LAW_SORT = 1;

    private static final int MOST_BYTES = 240;
    private static final int BYTES_OF_A_FEED = 20;
    private static final int MOST_BRIDES = 6;
    private static final int MOST_PAINTERS = 5;
    private static final int MOST_LAWS = 4;
    private static final int MOST_PORTRAITS = 20;
    private static final int MOST_ACTS = 40;
    private static final int MOST_PURSE = 999;
    private static final int LAST_MONTH = 999;
    private static final int MOST_MONTHS_AT_ONCE = 60;
    private static final int NINE = 9;
    private static final int FACES = 10;
    private static final int FAIR = 5;
    private static final int PARTS_OF_BELIEF = 1000000;

    private static final int SOLD_TWICE = 3;

    private static final int LETTER_COST = 2;
    private static final int SHOE_COST = 1;

    private static final int NO_SUCH_ONE = 0;
    private static final int OUT_OF_BOUNDS = 1;
    private static final int TOO_LITTLE = 2;
    private static final int WED_OR_NOT = 3;
    private static final int NOT_TO_BE = 4;
    private static final int STATUS_SORTS = 5;

    private final Tape tape;
    private final CourtReader courtReader;
    private final LawReader lawReader;
    private final Court draft;
    private final Court court;
    private final Law[] laws;
    private final State state;
    private final State kept;
    private final Acts acts;
    private final Studio studio;
    private final Mind mind;
    private final Draws draws;
    private final int[] refused;
    private int lawCount;
    private int lawThatHolds;
    private int bribery;
    private boolean hasImage;

    public NinePortraits() {
        tape = new Tape();
        courtReader = new CourtReader();
        lawReader = new LawReader();
        draft = new Court();
        court = new Court();
        laws = new Law[MOST_LAWS];
        state = new State();
        kept = new State();
        acts = new Acts();
        studio = new Studio(court, state);
        mind = new Mind(court, state, studio);
        draws = new Draws();
        refused = new int[STATUS_SORTS];
        lawThatHolds = NONE;
    }

    // ---- the tape and its texts ----

    public int feed(int a, int b, int c, int d, int e) {
        int before = tape.length;
        tape.add(a);
        tape.add(b);
        tape.add(c);
        tape.add(d);
        tape.add(e);
        if (tape.length > MOST_BYTES) {
            tape.length = before;
            return NONE;
        }
        return tape.length;
    }

    public boolean end(int n) {
        if (n < 0 || n > tape.length) {
            return false;
        }
        tape.length = n;
        return true;
    }

    public int fault(int sort) {
        if (sort == COURT_SORT) {
            return courtReader.read(tape, draft);
        }
        if (sort == LAW_SORT) {
            return lawReader.read(tape);
        }
        return NO_SUCH_SORT;
    }

    public int text(int sort) {
        if (sort == COURT_SORT && courtReader.read(tape, draft) == NONE) {
            return takeCourt();
        }
        if (sort == LAW_SORT && lawCount < MOST_LAWS && lawReader.read(tape) == NONE) {
            return takeLaw();
        }
        return NONE;
    }

    private int takeCourt() {
        tape.length = 0;
        court.become(draft);
        state.begin(court);
        acts.forget();
        hasImage = false;
        return court.brides;
    }

    private int takeLaw() {
        tape.length = 0;
        laws[lawCount] = lawReader.made();
        lawCount++;
        return lawCount - 1;
    }

    // ---- what stands in the court ----

    public int rule(int what) {
        if (!hasCourt()) {
            return NONE;
        }
        switch (what) {
            case 0:
                return state.purse;
            case 1:
                return court.wantOfFace();
            case 2:
                return court.wantOfDowry();
            default:
                return NONE;
        }
    }

    public int bride(int bride, int what) throws NoSuchElementException {
        if (!isBride(bride) || what < 0 || what > 5) {
            throw new NoSuchElementException();
        }
        switch (what) {
            case 0:
                return court.faceOf(bride);
            case 1:
                return court.dowryOf(bride);
            case 2:
                return court.wartsOf(bride);
            case 3:
                return state.pays[bride];
            case 4:
                return bit(state.letters, bride);
            default:
                return bit(state.shoes, bride);
        }
    }

    public int painter(int painter, int what) {
        if (!isPainter(painter)) {
            return NONE;
        }
        switch (what) {
            case 0:
                return court.skillOf(painter);
            case 1:
                return court.feeOf(painter);
            case 2:
                return state.fears[painter];
            case 3:
                return court.kindOf(painter);
            default:
                return NONE;
        }
    }

    public boolean law(int law) {
        if (law < NONE || law >= lawCount) {
            return false;
        }
        lawThatHolds = law;
        studio.law = law == NONE ? null : laws[law];
        return true;
    }

    public int flattery(int painter, int bride) {
        if (!isPainter(painter) || !isBride(bride)) {
            return NONE;
        }
        return studio.flatteryFor(painter, state.pays[bride]);
    }

    public int shown(int painter, int bride, int f) {
        if (!isPainter(painter) || !isBride(bride) || !isFace(f)) {
            return NONE;
        }
        return studio.showOf(painter, bride, f);
    }

    // ---- acts ----

    public int paint(int painter, int bride) {
        if (!isPainter(painter) || !isBride(bride)) {
            return refuse(NO_SUCH_ONE);
        }
        if (state.purse < court.feeOf(painter)) {
            return refuse(TOO_LITTLE);
        }
        if (state.painted >= MOST_PORTRAITS) {
            return refuse(NOT_TO_BE);
        }
        acts.keep(state);
        return paintNow(painter, bride);
    }

    private int paintNow(int painter, int bride) {
        int shows = studio.showOf(painter, bride, court.faceOf(bride));
        state.hang(bride, painter, shows);
        state.purse -= court.feeOf(painter);
        return shows;
    }

    public int pay(int bride, int n) {
        if (!isBride(bride)) {
            return refuse(NO_SUCH_ONE);
        }
        if (n < -NINE || n > NINE || n == 0 || !isDigit(state.pays[bride] + n)) {
            return refuse(OUT_OF_BOUNDS);
        }
        acts.keep(state);
        state.pays[bride] += n;
        return state.pays[bride];
    }

    public int threaten(int painter) {
        if (!isPainter(painter)) {
            return refuse(NO_SUCH_ONE);
        }
        if (state.fears[painter] >= NINE) {
            return refuse(OUT_OF_BOUNDS);
        }
        acts.keep(state);
        state.fears[painter]++;
        return state.fears[painter];
    }

    public int letter(int bride) {
        if (!paysToHear(bride, state.letters, LETTER_COST)) {
            return NONE;
        }
        state.letters |= 1 << bride;
        return court.faceOf(bride) >= FAIR ? 1 : 0;
    }

    public int shoe(int bride) {
        if (!paysToHear(bride, state.shoes, SHOE_COST)) {
            return NONE;
        }
        state.shoes |= 1 << bride;
        return court.faceOf(bride) % 2;
    }

    /** Begins the act of a letter or a shoe, unless it is refused. */
    private boolean paysToHear(int bride, int heardOf, int cost) {
        int why = NONE;
        if (!isBride(bride)) {
            why = NO_SUCH_ONE;
        } else if (bit(heardOf, bride) == 1) {
            why = OUT_OF_BOUNDS;
        } else if (state.purse < cost) {
            why = TOO_LITTLE;
        }
        if (why != NONE) {
            refuse(why);
            return false;
        }
        acts.keep(state);
        state.purse -= cost;
        return true;
    }

    public int wed(int bride) {
        if (!isBride(bride)) {
            return refuse(NO_SUCH_ONE);
        }
        if (state.wed != NONE) {
            return refuse(WED_OR_NOT);
        }
        acts.keep(state);
        state.wed = bride;
        state.purse = Math.min(MOST_PURSE, state.purse + court.dowryOf(bride) / 10);
        return state.purse;
    }

    public int annul() {
        if (!hasCourt()) {
            return refuse(NO_SUCH_ONE);
        }
        int bride = state.wed;
        if (bride == NONE) {
            return refuse(WED_OR_NOT);
        }
        if (looked(bride) - court.faceOf(bride) < 3) {
            return refuse(NOT_TO_BE);
        }
        acts.keep(state);
        state.wed = NONE;
        return bride;
    }

    public int months(int n) {
        if (!hasCourt()) {
            return refuse(NO_SUCH_ONE);
        }
        if (n < 1 || n > MOST_MONTHS_AT_ONCE) {
            return refuse(OUT_OF_BOUNDS);
        }
        if (state.month + n > LAST_MONTH) {
            return refuse(NOT_TO_BE);
        }
        for (int i = 0; i < n; i++) {
            acts.keep(state);
            state.passMonth();
        }
        return state.month;
    }

    public boolean bribes(int v) {
        if (!isDigit(v) || v == bribery) {
            return false;
        }
        bribery = v;
        return true;
    }

    public int decades(int n, long seed) {
        if (!hasCourt() || n < 1 || n > MOST_MONTHS_AT_ONCE || state.month + n > LAST_MONTH) {
            return NONE;
        }
        draws.begin(seed);
        for (int i = 0; i < n; i++) {
            acts.keep(state);
            paintByDraws();
            payByDraws();
            state.passMonth();
        }
        return state.month;
    }

    private void paintByDraws() {
        int painter = draws.below(court.painters);
        int bride = draws.below(court.brides);
        if (state.purse >= court.feeOf(painter) && state.painted < MOST_PORTRAITS) {
            paintNow(painter, bride);
        }
    }

    private void payByDraws() {
        if (draws.below(10) >= bribery) {
            return;
        }
        int bride = draws.below(court.brides);
        state.pays[bride] = Math.min(NINE, state.pays[bride] + 1);
    }

    public int status(int what) {
        return what < 0 || what >= STATUS_SORTS ? NONE : refused[what];
    }

    public int undo() {
        return acts.takeBack(state) ? acts.count : NONE;
    }

    // ---- what is told of faces ----

    public int portrait(int i, int what) {
        if (i < 0 || i >= state.painted || what < 0 || what >= State.PORTRAIT_PARTS) {
            return NONE;
        }
        return state.ofPortrait(state.painted - 1 - i, what);
    }

    public int fits(int bride) {
        return isBride(bride) ? mind.fitting(bride) : NONE;
    }

    public int belief(int bride, int f) {
        if (!isBride(bride) || !isFace(f)) {
            return NONE;
        }
        mind.weigh(bride);
        return mind.share(f);
    }

    public int likely(int bride, int what) {
        if (!isBride(bride) || what < 0 || what > 1) {
            return NONE;
        }
        mind.weigh(bride);
        return what == 0 ? mind.likelyFace : mind.share(mind.likelyFace);
    }

    public int sure(int bride, int t) {
        if (!isBride(bride) || t < 1 || t > PARTS_OF_BELIEF) {
            return NONE;
        }
        mind.weigh(bride);
        return mind.share(mind.likelyFace) >= t ? 1 : 0;
    }

    public int next(int bride) {
        return isBride(bride) ? mind.bestSketcher(bride) : NONE;
    }

    public int apart(int bride) {
        return isBride(bride) ? mind.fewestSketchers(bride) : NONE;
    }

    // ---- whom the king would choose ----

    public int worth(int bride, int f) {
        return isBride(bride) && isFace(f) ? court.worthWith(bride, f) : NONE;
    }

    public int chooses(int what) {
        if (!hasCourt() || what < 0 || what > 3) {
            return NONE;
        }
        if (what < 3) {
            return choice(what);
        }
        return court.trueWorth(choice(1)) - court.trueWorth(choice(0));
    }

    private int choice(int what) {
        int best = 0;
        int bestWorth = NONE;
        for (int bride = 0; bride < court.brides; bride++) {
            // A face of 0 adds nothing, so the dowry alone is left.
            int face = what == 1 ? court.faceOf(bride) : 0;
            if (what == 0) {
                mind.weigh(bride);
                face = mind.likelyFace;
            }
            int worth = court.worthWith(bride, face);
            if (worth > bestWorth) {
                best = bride;
                bestWorth = worth;
            }
        }
        return best;
    }

    // ---- houses and painters ----

    public int game(int one, int other, int painter, int x, int y, int what) {
        if (!canPlay(one, other, painter) || !isDigit(x) || !isDigit(y) || what < 0 || what > 1) {
            return HIDDEN;
        }
        int oneLook = studio.lookOf(painter, one, court.faceOf(one), x);
        int otherLook = studio.lookOf(painter, other, court.faceOf(other), y);
        return what == 0 ? gain(oneLook, otherLook, x) : gain(otherLook, oneLook, y);
    }

    private static int gain(int own, int others, int paid) {
        int won = own > others ? 6 : own == others ? 3 : 0;
        return won - paid / 2;
    }

    public int rests(int one, int other, int painter, int i) {
        if (!canPlay(one, other, painter) || i < NONE) {
            return NONE;
        }
        studio.fillLooks(painter, one, studio.oneLooks);
        studio.fillLooks(painter, other, studio.otherLooks);
        int found = 0;
        for (int x = 0; x <= NINE; x++) {
            for (int y = 0; y <= NINE; y++) {
                if (!bestAgainst(studio.oneLooks, x, studio.otherLooks[y])
                        || !bestAgainst(studio.otherLooks, y, studio.oneLooks[x])) {
                    continue;
                }
                if (found == i) {
                    return 10 * x + y;
                }
                found++;
            }
        }
        return i == NONE ? found : NONE;
    }

    private static boolean bestAgainst(int[] own, int paid, int others) {
        int has = gain(own[paid], others, paid);
        for (int another = 0; another <= NINE; another++) {
            if (gain(own[another], others, another) > has) {
                return false;
            }
        }
        return true;
    }

    public int truth(int painter, int bride) {
        if (!isPainter(painter) || !isBride(bride)) {
            return NONE;
        }
        int pays = state.pays[bride];
        int bound = state.fears[painter] * studio.flatteryFor(painter, pays) / 3;
        return pays <= bound ? 1 : 0;
    }

    public int cheapest(int brides, int what) {
        if (!hasCourt() || brides < 1 || brides >= 1 << court.brides || what < 0 || what > 1) {
            return NONE;
        }
        int wanted = Integer.bitCount(brides);
        if (wanted > court.painters) {
            return NONE;
        }
        int fees = 0;
        int row = 0;
        // A fee is the same for every bride, so the cheapest painters, rising, are the least row.
        for (int painter = 0; painter < court.painters; painter++) {
            if (court.rankByFee(painter) < wanted) {
                fees += court.feeOf(painter);
                row = 10 * row + painter;
            }
        }
        return what == 0 ? fees : row;
    }

    public int looks(int bride) {
        if (!isBride(bride) || state.portraitsOf(bride) == 0) {
            return HIDDEN;
        }
        return looked(bride) - court.faceOf(bride);
    }

    public int whose(int painter, int v) {
        if (!isPainter(painter) || !isDigit(v)) {
            return NONE;
        }
        int brides = 0;
        for (int bride = 0; bride < court.brides; bride++) {
            if (studio.showOf(painter, bride, court.faceOf(bride)) == v) {
                brides |= 1 << bride;
            }
        }
        return brides;
    }

    public int heads(int painter, int n, int chance) {
        if (!isPainter(painter) || n < 0 || n > 20 || chance < 0 || chance > 100) {
            return NONE;
        }
        int each = state.fears[painter] > 5 ? chance / 2 : chance;
        long left = 1000000000L;
        for (int i = 0; i < n; i++) {
            left -= left * each / 100;
        }
        return (int) left;
    }

    public int matched(int bride) {
        if (!isBride(bride)) {
            return NONE;
        }
        // All brides rank the painters alike and all painters the brides: like ranks are matched.
        int rank = rankByPay(bride);
        for (int painter = 0; painter < court.painters; painter++) {
            if (court.rankByFee(painter) == rank) {
                return painter;
            }
        }
        return NONE;
    }

    private int rankByPay(int bride) {
        int ahead = 0;
        for (int rival = 0; rival < court.brides; rival++) {
            int more = state.pays[rival] - state.pays[bride];
            if (more > 0 || more == 0 && rival < bride) {
                ahead++;
            }
        }
        return ahead;
    }

    // ---- sums over the court ----

    public int most(int what) {
        if (!hasCourt()) {
            return NONE;
        }
        switch (what) {
            case 0:
                return plainBrides();
            case 1:
                return court.topBride(Court.DOWRY);
            case 2:
                return court.topBride(Court.FACE);
            case 3:
                return court.cheapPainter();
            case 4:
                return lies();
            default:
                return NONE;
        }
    }

    private int plainBrides() {
        int brides = 0;
        for (int bride = 0; bride < court.brides; bride++) {
            mind.weigh(bride);
            if (mind.likelyFace < FAIR) {
                brides |= 1 << bride;
            }
        }
        return brides;
    }

    private int lies() {
        int sum = 0;
        for (int i = 0; i < state.painted; i++) {
            sum += Math.abs(above(i));
        }
        return sum;
    }

    private int above(int i) {
        return state.ofPortrait(i, State.SHOWS) - court.faceOf(state.ofPortrait(i, State.BRIDE));
    }

    public int seen(int bride) {
        return isBride(bride) ? state.portraitsOf(bride) : NONE;
    }

    public int saves(int n) {
        if (!hasCourt() || n < 1 || n > MOST_PURSE) {
            return NONE;
        }
        return Math.max(0, n - state.purse);
    }

    public int rivals(int bride) {
        if (!isBride(bride)) {
            return NONE;
        }
        int brides = 0;
        for (int rival = 0; rival < court.brides; rival++) {
            if (court.trueWorth(rival) > court.trueWorth(bride)) {
                brides |= 1 << rival;
            }
        }
        return brides;
    }

    public int affords(int painter) {
        if (!isPainter(painter)) {
            return NONE;
        }
        int room = MOST_PORTRAITS - state.painted;
        int fee = court.feeOf(painter);
        return fee == 0 ? room : Math.min(room, state.purse / fee);
    }

    public int told(int painter) {
        if (!isPainter(painter) || state.latestBy(painter) == NONE) {
            return HIDDEN;
        }
        int sum = 0;
        for (int i = 0; i < state.painted; i++) {
            if (state.ofPortrait(i, State.PAINTER) == painter) {
                sum += above(i);
            }
        }
        return sum;
    }

    // ---- images and counts ----

    public int image() {
        if (!hasCourt()) {
            return NONE;
        }
        kept.become(state);
        hasImage = true;
        return state.month;
    }

    public int back() {
        if (!hasImage) {
            return NONE;
        }
        state.become(kept);
        acts.forget();
        return state.month;
    }

    public int count(int what) {
        switch (what) {
            case 0:
                return court.brides;
            case 1:
                return court.painters;
            case 2:
                return lawCount;
            case 3:
                return tape.length;
            case 4:
                return lawThatHolds;
            case 5:
                return state.month;
            case 6:
                return state.wed;
            case 7:
                return state.painted;
            case 8:
                return bribery;
            case 9:
                return acts.count;
            default:
                return HIDDEN;
        }
    }

    // ---- small helpers ----

    private int refuse(int why) {
        refused[why]++;
        return NONE;
    }

    private boolean hasCourt() {
        return court.brides > 0;
    }

    private boolean isBride(int bride) {
        return bride >= 0 && bride < court.brides;
    }

    private boolean isPainter(int painter) {
        return painter >= 0 && painter < court.painters;
    }

    private boolean canPlay(int one, int other, int painter) {
        return isBride(one) && isBride(other) && one != other && isPainter(painter);
    }

    private int looked(int bride) {
        int portraits = state.portraitsOf(bride);
        return portraits == 0 ? 0 : state.shownTogether(bride) / portraits;
    }

    private static boolean isFace(int f) {
        return f >= 0 && f < FACES;
    }

    private static boolean isDigit(int v) {
        return v >= 0 && v <= NINE;
    }

    private static int bit(int bits, int place) {
        return bits >> place & 1;
    }

    /** The bytes that were fed, and the place at which a reader stands in them. */
    private static final class Tape {
        static final int END = 0;
        private static final int BLANK = 32;

        // One feed more than is allowed has room, so that it can be refused as a whole.
        final int[] bytes = new int[MOST_BYTES + BYTES_OF_A_FEED];
        int length;
        int at;

        void add(int word) {
            for (int shift = 24; shift >= 0; shift -= 8) {
                int sign = word >>> shift & 255;
                if (sign != 0 && length < bytes.length) {
                    bytes[length] = sign;
                    length++;
                }
            }
        }

        /** The sign behind the blanks, END (which no byte of the tape is) behind the last. */
        int peek() {
            while (at < length && bytes[at] == BLANK) {
                at++;
            }
            return at < length ? bytes[at] : END;
        }

        boolean takes(int sign) {
            if (peek() != sign) {
                return false;
            }
            at++;
            return true;
        }

        /** The number that begins here; NONE, standing at the fault, if it is wrong. */
        int number(int digits, int most) {
            int value = 0;
            int had = 0;
            for (; at < length && bytes[at] >= '0' && bytes[at] <= '9'; at++) {
                if (had == digits) {
                    return NONE;
                }
                value = 10 * value + bytes[at] - '0';
                had++;
            }
            if (had == 0) {
                return NONE;
            }
            if (value > most) {
                at--;
                return NONE;
            }
            return value;
        }
    }

    /** What a court's text tells; nothing in it changes by acts. */
    private static final class Court {
        static final int FACE = 0;
        static final int DOWRY = 1;
        static final int WARTS = 2;
        static final int PAYS = 3;
        static final int SKILL = 0;
        static final int FEE = 1;
        static final int FEAR = 2;
        static final int KIND = 3;
        static final int PARTS = 4;

        final int[] rules = new int[3];
        final int[] brideParts = new int[MOST_BRIDES * PARTS];
        final int[] painterParts = new int[MOST_PAINTERS * PARTS];
        int brides;
        int painters;

        void become(Court other) {
            brides = other.brides;
            painters = other.painters;
            System.arraycopy(other.rules, 0, rules, 0, rules.length);
            System.arraycopy(other.brideParts, 0, brideParts, 0, brideParts.length);
            System.arraycopy(other.painterParts, 0, painterParts, 0, painterParts.length);
        }

        int firstPurse() {
            return rules[0];
        }

        int wantOfFace() {
            return rules[1];
        }

        int wantOfDowry() {
            return rules[2];
        }

        int ofBride(int bride, int part) {
            return brideParts[bride * PARTS + part];
        }

        int ofPainter(int painter, int part) {
            return painterParts[painter * PARTS + part];
        }

        int faceOf(int bride) {
            return ofBride(bride, FACE);
        }

        int dowryOf(int bride) {
            return ofBride(bride, DOWRY);
        }

        int wartsOf(int bride) {
            return ofBride(bride, WARTS);
        }

        int skillOf(int painter) {
            return ofPainter(painter, SKILL);
        }

        int feeOf(int painter) {
            return ofPainter(painter, FEE);
        }

        int kindOf(int painter) {
            return ofPainter(painter, KIND);
        }

        int worthWith(int bride, int face) {
            return face * wantOfFace() + dowryOf(bride) / 10 * wantOfDowry();
        }

        int trueWorth(int bride) {
            return worthWith(bride, faceOf(bride));
        }

        int topBride(int part) {
            int top = 0;
            for (int bride = 1; bride < brides; bride++) {
                if (ofBride(bride, part) > ofBride(top, part)) {
                    top = bride;
                }
            }
            return top;
        }

        int cheapPainter() {
            int cheap = 0;
            for (int painter = 1; painter < painters; painter++) {
                if (feeOf(painter) < feeOf(cheap)) {
                    cheap = painter;
                }
            }
            return cheap;
        }

        int rankByFee(int painter) {
            int ahead = 0;
            for (int rival = 0; rival < painters; rival++) {
                int more = feeOf(rival) - feeOf(painter);
                if (more < 0 || more == 0 && rival < painter) {
                    ahead++;
                }
            }
            return ahead;
        }
    }

    /** Reads the tape as a court. */
    private static final class CourtReader {
        private static final int DIGITS = 2;
        private static final char[] RULE_LETTERS = {'p', 'f', 'd'};
        private static final int[] RULE_BOUNDS = {99, 9, 9};
        private static final int[] RULE_DEFAULTS = {40, 5, 3};
        private static final char[] BRIDE_LETTERS = {'f', 'd', 'w', 'y'};
        private static final int[] BRIDE_BOUNDS = {9, 99, 9, 9};
        private static final int[] BRIDE_DEFAULTS = {5, 20, 1, 2};
        private static final char[] PAINTER_LETTERS = {'s', 'f', 'a', 'k'};
        private static final int[] PAINTER_BOUNDS = {9, 30, 9, 3};
        private static final int[] PAINTER_DEFAULTS = {5, 5, 3, 0};

        private Tape tape;
        private Court court;
        private boolean hasRules;

        /** Fills the court; answers the fault, NONE without. */
        int read(Tape from, Court into) {
            tape = from;
            court = into;
            tape.at = 0;
            court.brides = 0;
            court.painters = 0;
            hasRules = false;
            System.arraycopy(RULE_DEFAULTS, 0, court.rules, 0, RULE_DEFAULTS.length);
            boolean good = clause();
            for (int i = 0; i < tape.length && good && tape.takes(';'); i++) {
                good = clause();
            }
            if (good && tape.peek() == Tape.END && court.brides > 0 && court.painters > 0) {
                return NONE;
            }
            return tape.at;
        }

        private boolean clause() {
            int sign = tape.peek();
            if (sign == 's' && !hasRules) {
                hasRules = true;
                tape.at++;
                return items(RULE_LETTERS, RULE_BOUNDS, court.rules, 0);
            }
            if (sign == 'b' && court.brides < MOST_BRIDES) {
                int from = court.brides * Court.PARTS;
                court.brides++;
                tape.at++;
                System.arraycopy(BRIDE_DEFAULTS, 0, court.brideParts, from, Court.PARTS);
                return items(BRIDE_LETTERS, BRIDE_BOUNDS, court.brideParts, from);
            }
            if (sign == 'p' && court.painters < MOST_PAINTERS) {
                int from = court.painters * Court.PARTS;
                court.painters++;
                tape.at++;
                System.arraycopy(PAINTER_DEFAULTS, 0, court.painterParts, from, Court.PARTS);
                return items(PAINTER_LETTERS, PAINTER_BOUNDS, court.painterParts, from);
            }
            return false;
        }

        /** Reads items till a sign that is no item of this clause any more. */
        private boolean items(char[] letters, int[] bounds, int[] row, int from) {
            int had = 0;
            for (int i = 0; i < letters.length; i++) {
                int item = placeOf(tape.peek(), letters);
                if (item == NONE || bit(had, item) == 1) {
                    return true;
                }
                had |= 1 << item;
                tape.at++;
                tape.peek();
                int value = tape.number(DIGITS, bounds[item]);
                if (value == NONE) {
                    return false;
                }
                row[from + item] = value;
            }
            return true;
        }

        private static int placeOf(int sign, char[] letters) {
            for (int i = 0; i < letters.length; i++) {
                if (letters[i] == sign) {
                    return i;
                }
            }
            return NONE;
        }
    }

    /** A law as steps behind one another: operands first, then the sign that joins them. */
    private static final class Law {
        static final int NUMBER = 1;
        static final int LETTER = 2;
        static final int CONDITION = '?';
        static final int ANSWER = ';';
        static final int NOT = '!';
        static final int ARGUMENT_SHIFT = 8;
        static final int SIGN_MASK = 255;
        private static final int BOUND = 1000000;

        private final int[] steps;

        Law(int[] lawSteps) {
            steps = lawSteps;
        }

        /** Its worth; the stack is at least as long as six of ( [ ! within one another need. */
        int answer(int[] letters, int[] stack) {
            int top = 0;
            boolean skipping = false;
            for (int i = 0; i < steps.length; i++) {
                int sign = steps[i] & SIGN_MASK;
                int argument = steps[i] >> ARGUMENT_SHIFT;
                if (skipping) {
                    skipping = sign != ANSWER;
                } else if (sign == NUMBER || sign == LETTER) {
                    if (top >= stack.length) {
                        return 0;
                    }
                    stack[top] = sign == NUMBER ? argument : letters[argument];
                    top++;
                } else if (top < 1) {
                    return 0;
                } else if (sign == ANSWER) {
                    return stack[top - 1];
                } else if (sign == CONDITION) {
                    top--;
                    skipping = stack[top] == 0;
                } else if (sign == NOT) {
                    stack[top - 1] = 1 - stack[top - 1];
                } else if (top < 2) {
                    return 0;
                } else {
                    top--;
                    stack[top - 1] = joined(sign, stack[top - 1], stack[top]);
                }
            }
            return 0;
        }

        private static int joined(int sign, int a, int b) {
            long value = 0;
            switch (sign) {
                case '=':
                    return a == b ? 1 : 0;
                case '<':
                    return a < b ? 1 : 0;
                case '>':
                    return a > b ? 1 : 0;
                case '&':
                    return a & b;
                case '|':
                    return a | b;
                case '+':
                    value = (long) a + b;
                    break;
                case '-':
                    value = (long) a - b;
                    break;
                case '*':
                    value = (long) a * b;
                    break;
                default:
                    value = b == 0 ? 0 : a / b;
                    break;
            }
            return value > BOUND ? BOUND : value < -BOUND ? -BOUND : (int) value;
        }
    }

    /** Reads the tape as a law, and makes its steps. */
    private static final class LawReader {
        private static final int DIGITS = 4;
        private static final int MOST_NUMBER = 9999;
        private static final int MOST_WITHIN = 6;
        private static final char[] LETTERS = {'f', 'w', 'y', 's', 'a', 'm'};

        // Each byte makes one step at most, and the end of the last clause one more.
        private final int[] steps = new int[MOST_BYTES + 1];
        private int size;
        private Tape tape;

        /** The fault, NONE without. */
        int read(Tape from) {
            tape = from;
            tape.at = 0;
            size = 0;
            boolean good = clause();
            for (int i = 0; i < tape.length && good && tape.takes(';'); i++) {
                good = clause();
            }
            return good && tape.peek() == Tape.END ? NONE : tape.at;
        }

        Law made() {
            return new Law(Arrays.copyOf(steps, size));
        }

        private boolean clause() {
            if (!tape.takes('y') || !tape.takes(':')) {
                return false;
            }
            int sign = tape.peek();
            boolean begun = sign != '!' && sign != '(';
            if (begun && !sum(0)) {
                return false;
            }
            // Whether a first sum was the answer or a condition's beginning is told by what follows.
            if (!begun || isComparison(tape.peek())) {
                if (!condition(0, begun) || !tape.takes('?')) {
                    return false;
                }
                put(Law.CONDITION, 0);
                if (!sum(0)) {
                    return false;
                }
            }
            put(Law.ANSWER, 0);
            return true;
        }

        /** Units with & and |, each | put down when all that & joins behind it has been read. */
        private boolean condition(int within, boolean begun) {
            if (!unit(within, begun)) {
                return false;
            }
            boolean waits = false;
            int sign = tape.peek();
            for (int i = 0; i < tape.length && (sign == '&' || sign == '|'); i++) {
                if (sign == '|' && waits) {
                    put('|', 0);
                }
                tape.at++;
                if (!unit(within, false)) {
                    return false;
                }
                if (sign == '&') {
                    put('&', 0);
                } else {
                    waits = true;
                }
                sign = tape.peek();
            }
            if (waits) {
                put('|', 0);
            }
            return true;
        }

        /** A unit; of one that has begun the first sum stands already. */
        private boolean unit(int within, boolean begun) {
            int sign = tape.peek();
            if (!begun && (sign == '!' || sign == '(')) {
                if (within >= MOST_WITHIN) {
                    return false;
                }
                tape.at++;
                if (sign == '(') {
                    return condition(within + 1, false) && tape.takes(')');
                }
                if (!unit(within + 1, false)) {
                    return false;
                }
                put(Law.NOT, 0);
                return true;
            }
            if (!begun && !sum(within)) {
                return false;
            }
            int comparison = tape.peek();
            if (!isComparison(comparison)) {
                return false;
            }
            tape.at++;
            if (!sum(within)) {
                return false;
            }
            put(comparison, 0);
            return true;
        }

        /** Atoms with signs, each + or - put down when the term behind it has been read. */
        private boolean sum(int within) {
            if (!atom(within)) {
                return false;
            }
            int waits = 0;
            int sign = tape.peek();
            for (int i = 0; i < tape.length && isArithmetic(sign); i++) {
                boolean ofTerm = sign == '*' || sign == '/';
                if (!ofTerm && waits != 0) {
                    put(waits, 0);
                }
                tape.at++;
                if (!atom(within)) {
                    return false;
                }
                if (ofTerm) {
                    put(sign, 0);
                } else {
                    waits = sign;
                }
                sign = tape.peek();
            }
            if (waits != 0) {
                put(waits, 0);
            }
            return true;
        }

        private boolean atom(int within) {
            int sign = tape.peek();
            if (sign == '[') {
                if (within >= MOST_WITHIN) {
                    return false;
                }
                tape.at++;
                if (!sum(within + 1) || tape.peek() != ']') {
                    return false;
                }
                tape.at++;
                return true;
            }
            for (int i = 0; i < LETTERS.length; i++) {
                if (sign == LETTERS[i]) {
                    tape.at++;
                    put(Law.LETTER, i);
                    return true;
                }
            }
            int value = tape.number(DIGITS, MOST_NUMBER);
            if (value == NONE) {
                return false;
            }
            put(Law.NUMBER, value);
            return true;
        }

        private void put(int sign, int argument) {
            if (size < steps.length) {
                steps[size] = sign | argument << Law.ARGUMENT_SHIFT;
                size++;
            }
        }

        private static boolean isComparison(int sign) {
            return sign == '=' || sign == '<' || sign == '>';
        }

        private static boolean isArithmetic(int sign) {
            return sign == '+' || sign == '-' || sign == '*' || sign == '/';
        }
    }

    /** All that acts change. */
    private static final class State {
        static final int BRIDE = 0;
        static final int PAINTER = 1;
        static final int SHOWS = 2;
        static final int MONTH = 3;
        static final int PORTRAIT_PARTS = 4;
        static final int ROW = MOST_BRIDES + MOST_PAINTERS + 6;

        final int[] pays = new int[MOST_BRIDES];
        final int[] fears = new int[MOST_PAINTERS];
        private final int[] portraits = new int[MOST_PORTRAITS * PORTRAIT_PARTS];
        int painted;
        int letters;
        int shoes;
        int wed = NONE;
        int purse;
        int month;

        void begin(Court court) {
            painted = 0;
            letters = 0;
            shoes = 0;
            wed = NONE;
            purse = court.firstPurse();
            month = 0;
            for (int bride = 0; bride < court.brides; bride++) {
                pays[bride] = court.ofBride(bride, Court.PAYS);
            }
            for (int painter = 0; painter < court.painters; painter++) {
                fears[painter] = court.ofPainter(painter, Court.FEAR);
            }
        }

        void become(State other) {
            System.arraycopy(other.pays, 0, pays, 0, pays.length);
            System.arraycopy(other.fears, 0, fears, 0, fears.length);
            System.arraycopy(other.portraits, 0, portraits, 0, portraits.length);
            painted = other.painted;
            letters = other.letters;
            shoes = other.shoes;
            wed = other.wed;
            purse = other.purse;
            month = other.month;
        }

        /** Of portraits their number is enough: an act only ever adds the latest. */
        void writeRow(int[] rows, int from) {
            System.arraycopy(pays, 0, rows, from, MOST_BRIDES);
            System.arraycopy(fears, 0, rows, from + MOST_BRIDES, MOST_PAINTERS);
            int rest = from + MOST_BRIDES + MOST_PAINTERS;
            rows[rest] = painted;
            rows[rest + 1] = letters;
            rows[rest + 2] = shoes;
            rows[rest + 3] = wed;
            rows[rest + 4] = purse;
            rows[rest + 5] = month;
        }

        void readRow(int[] rows, int from) {
            System.arraycopy(rows, from, pays, 0, MOST_BRIDES);
            System.arraycopy(rows, from + MOST_BRIDES, fears, 0, MOST_PAINTERS);
            int rest = from + MOST_BRIDES + MOST_PAINTERS;
            painted = rows[rest];
            letters = rows[rest + 1];
            shoes = rows[rest + 2];
            wed = rows[rest + 3];
            purse = rows[rest + 4];
            month = rows[rest + 5];
        }

        void passMonth() {
            month++;
            purse = Math.min(MOST_PURSE, purse + 1);
        }

        void hang(int bride, int painter, int shows) {
            int from = painted * PORTRAIT_PARTS;
            portraits[from + BRIDE] = bride;
            portraits[from + PAINTER] = painter;
            portraits[from + SHOWS] = shows;
            portraits[from + MONTH] = month;
            painted++;
        }

        int ofPortrait(int i, int part) {
            return portraits[i * PORTRAIT_PARTS + part];
        }

        int latestBy(int painter) {
            for (int i = painted - 1; i >= 0; i--) {
                if (ofPortrait(i, PAINTER) == painter) {
                    return i;
                }
            }
            return NONE;
        }

        int portraitsOf(int bride) {
            int number = 0;
            for (int i = 0; i < painted; i++) {
                if (ofPortrait(i, BRIDE) == bride) {
                    number++;
                }
            }
            return number;
        }

        int shownTogether(int bride) {
            int sum = 0;
            for (int i = 0; i < painted; i++) {
                if (ofPortrait(i, BRIDE) == bride) {
                    sum += ofPortrait(i, SHOWS);
                }
            }
            return sum;
        }
    }

    /** What was ahead of the latest acts, in a ring. */
    private static final class Acts {
        private final int[] rows = new int[MOST_ACTS * State.ROW];
        private int place;
        int count;

        void keep(State state) {
            state.writeRow(rows, place * State.ROW);
            place = (place + 1) % MOST_ACTS;
            count = Math.min(MOST_ACTS, count + 1);
        }

        boolean takeBack(State state) {
            if (count == 0) {
                return false;
            }
            place = (place + MOST_ACTS - 1) % MOST_ACTS;
            count--;
            state.readRow(rows, place * State.ROW);
            return true;
        }

        void forget() {
            count = 0;
        }
    }

    /** How faces look and are shown by painters as things stand now. */
    private static final class Studio {
        private static final int STACK = 32;
        private static final int LETTERS = 6;

        final int[] oneLooks = new int[NINE + 1];
        final int[] otherLooks = new int[NINE + 1];
        private final Court court;
        private final State state;
        private final int[] letters = new int[LETTERS];
        private final int[] stack = new int[STACK];
        Law law;

        Studio(Court itsCourt, State itsState) {
            court = itsCourt;
            state = itsState;
        }

        int flatteryFor(int painter, int pays) {
            return Math.max(0, pays - state.fears[painter] / 3);
        }

        int lookOf(int painter, int bride, int face, int pays) {
            int look = face + flatteryFor(painter, pays) - court.wartsOf(bride) / 2;
            if (law != null) {
                letters[0] = face;
                letters[1] = court.wartsOf(bride);
                letters[2] = pays;
                letters[3] = court.skillOf(painter);
                letters[4] = state.fears[painter];
                letters[5] = state.month;
                look = law.answer(letters, stack);
            }
            return Math.max(0, Math.min(NINE, look));
        }

        int showOf(int painter, int bride, int face) {
            int kind = court.kindOf(painter);
            int latest = kind == SOLD_TWICE ? state.latestBy(painter) : NONE;
            if (latest != NONE) {
                return state.ofPortrait(latest, State.SHOWS);
            }
            int look = lookOf(painter, bride, face, state.pays[bride]);
            switch (kind) {
                case 1:
                    return (look + 7) / 2;
                case 2:
                    return Math.max(0, look - 2);
                default:
                    return look;
            }
        }

        /** How a bride's true face looks by each payment of her house. */
        void fillLooks(int painter, int bride, int[] row) {
            for (int pays = 0; pays < row.length; pays++) {
                row[pays] = lookOf(painter, bride, court.faceOf(bride), pays);
            }
        }
    }

    /** What the king makes of all that he was told. */
    private static final class Mind {
        private static final int MOST_TOLD = 12;
        private static final int ALL_FACES = 1023;
        private static final int FAIR_FACES = 992;
        private static final int ODD_FACES = 682;
        private static final int PAIRS_OF_FACES = 45;

        private final Court court;
        private final State state;
        private final Studio studio;
        private final long[] weights = new long[FACES];
        private long total;
        int likelyFace;
        private final int[] views = new int[FACES];
        private final int[] alike = new int[NINE + 1];
        private final int[] tellers = new int[PAIRS_OF_FACES];

        Mind(Court itsCourt, State itsState, Studio itsStudio) {
            court = itsCourt;
            state = itsState;
            studio = itsStudio;
        }

        int fitting(int bride) {
            int face = court.faceOf(bride);
            int faces = ALL_FACES;
            if (bit(state.letters, bride) == 1) {
                faces &= face >= FAIR ? FAIR_FACES : ~FAIR_FACES;
            }
            if (bit(state.shoes, bride) == 1) {
                faces &= face % 2 == 1 ? ODD_FACES : ~ODD_FACES;
            }
            return faces;
        }

        /** Fills the weights of the faces (0 of those that do not fit), and finds the likely one. */
        void weigh(int bride) {
            int faces = fitting(bride);
            for (int f = 0; f < FACES; f++) {
                weights[f] = bit(faces, f);
            }
            int told = 0;
            for (int i = state.painted - 1; i >= 0 && told < MOST_TOLD; i--) {
                if (state.ofPortrait(i, State.BRIDE) == bride
                        && sketches(state.ofPortrait(i, State.PAINTER))) {
                    told++;
                    weighBy(i, bride);
                }
            }
            total = 0;
            for (int f = 0; f < FACES; f++) {
                total += weights[f];
            }
            likelyFace = 0;
            for (int f = 1; f < FACES; f++) {
                if (share(f) > share(likelyFace)) {
                    likelyFace = f;
                }
            }
        }

        private void weighBy(int portrait, int bride) {
            int painter = state.ofPortrait(portrait, State.PAINTER);
            int was = state.ofPortrait(portrait, State.SHOWS);
            for (int f = 0; f < FACES; f++) {
                if (weights[f] != 0) {
                    int far = Math.abs(studio.showOf(painter, bride, f) - was);
                    weights[f] *= Math.max(1, 1 + court.skillOf(painter) - far);
                }
            }
        }

        /** The belief in a face of the bride who was weighed last. */
        int share(int f) {
            return total == 0 ? 0 : (int) (weights[f] * PARTS_OF_BELIEF / total);
        }

        private boolean sketches(int painter) {
            return court.kindOf(painter) != SOLD_TWICE;
        }

        int bestSketcher(int bride) {
            int faces = fitting(bride);
            int best = NONE;
            int fewest = FACES + 1;
            for (int painter = 0; painter < court.painters; painter++) {
                if (!sketches(painter)) {
                    continue;
                }
                int most = mostAlike(painter, bride, faces);
                if (most < fewest) {
                    best = painter;
                    fewest = most;
                }
            }
            return best;
        }

        private int mostAlike(int painter, int bride, int faces) {
            Arrays.fill(alike, 0);
            int most = 0;
            for (int f = 0; f < FACES; f++) {
                if (bit(faces, f) == 1) {
                    int shows = studio.showOf(painter, bride, f);
                    alike[shows]++;
                    most = Math.max(most, alike[shows]);
                }
            }
            return most;
        }

        int fewestSketchers(int bride) {
            int faces = fitting(bride);
            Arrays.fill(tellers, 0);
            int pairs = 0;
            for (int painter = 0; painter < court.painters; painter++) {
                if (sketches(painter)) {
                    pairs = addTeller(painter, bride, faces);
                }
            }
            // Without a sketcher there is none: two faces at least fit whatever was told.
            if (pairs == 0) {
                return NONE;
            }
            int best = NONE;
            for (int set = 0; set < 1 << court.painters; set++) {
                boolean fewer = best == NONE || Integer.bitCount(set) < Integer.bitCount(best);
                if (fewer && tellsAll(set, pairs)) {
                    best = set;
                }
            }
            return best;
        }

        /** Notes of each pair of faces whether the painter shows them unlike; how many pairs. */
        private int addTeller(int painter, int bride, int faces) {
            for (int f = 0; f < FACES; f++) {
                views[f] = studio.showOf(painter, bride, f);
            }
            int pair = 0;
            for (int f = 0; f < FACES; f++) {
                for (int g = f + 1; g < FACES; g++) {
                    if (bit(faces, f) == 0 || bit(faces, g) == 0) {
                        continue;
                    }
                    if (views[f] != views[g]) {
                        tellers[pair] |= 1 << painter;
                    }
                    pair++;
                }
            }
            return pair;
        }

        private boolean tellsAll(int set, int pairs) {
            for (int pair = 0; pair < pairs; pair++) {
                if ((tellers[pair] & set) == 0) {
                    return false;
                }
            }
            return true;
        }
    }

    /** The draws of decades. */
    private static final class Draws {
        private long x;

        void begin(long seed) {
            x = seed;
        }

        int below(int bound) {
            x = x * 6364136223846793005L + 1442695040888963407L;
            return bound < 1 ? 0 : (int) ((x >>> 33) % bound);
        }
    }
}
