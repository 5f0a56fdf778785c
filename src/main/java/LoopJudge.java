import java.util.Arrays;

/**
 * A judge of control loops: it counts the roots of a polynomial plus a gain times another one to the
 * right of the axis (or outside the circle), on it and to the left, without finding any root.
 *
 * <p>No call makes an object or an array: all rows are made with the judge and used again.
 */
public final class LoopJudge {
    public static final int BAD = -1, NOT = -2, FULL = -3, NONE = -4, NULL = -11, CAST = -12, INDEX = -13, SIZE = -14;

    private static final int PARTS = 5;
    private static final int TOP = PARTS - 1;
    private static final int MOST_PART = 9;
    private static final int MOST_GAIN = 800;
    private static final int EIGHTHS = 8;
    private static final int AXIS = 0;
    private static final int CIRCLE = 1;
    private static final int RIGHT = 0;
    private static final int EVEN = 1;
    private static final int LEFT = 2;
    private static final int NO_DEGREE = -1;

    private static final int MOST_RADIUS = 9;
    private static final int CORNERS = 4;
    private static final int NEIGHBOURS = 243;
    private static final int TENTHS = 10;
    private static final int SETS_OF_PARTS = 32;
    private static final int ALL_ODDS = 100000;
    /** The side (less -1, more 1) of PART k of corner c stands at c times PARTS plus k. */
    private static final int[] CORNER_SIDES = {
        -1, -1, 1, 1, -1,
        1, 1, -1, -1, 1,
        -1, 1, 1, -1, -1,
        1, -1, -1, 1, 1};

    private static final int FIRST_LETTER = 32;
    private static final int LAST_LETTER = 126;
    private static final int FIRST_FAULT = -20;
    private static final int NO_FAULT = -1;
    private static final int MOST_TURNS = 40;
    /** THE DRAW has 31 bits. */
    private static final int LOWEST_BITS = 0x7fffffff;

    private static final int SHEETS = 4;
    private static final int LANES = 4;
    private static final int MOST_ITEMS = 24;
    private static final int MOST_JUDGED = 4;
    private static final int CIRCLE_BITS = 8;

    private final Setting now;
    private final Past past;
    private final Setting keptNow;
    private final Past keptPast;
    private boolean kept;
    private final Tape tape;
    private final Shelf shelf;
    private final Judge judge;
    private final SpanBook axisSpans;
    private final SpanBook circleSpans;
    private final long[] poly;

    public LoopJudge() {
        now = new Setting();
        now.begin();
        past = new Past();
        keptNow = new Setting();
        keptPast = new Past();
        kept = false;
        tape = new Tape();
        shelf = new Shelf();
        judge = new Judge();
        axisSpans = new SpanBook(AXIS);
        circleSpans = new SpanBook(CIRCLE);
        poly = new long[PARTS];
    }

    // ---- 1 loops

    public int part(int which, int k, int v) {
        if (!isChoice(which, 2) || !isChoice(k, PARTS) || !isPart(v)) {
            return BAD;
        }
        int place = which * PARTS + k;
        int was = now.parts[place];
        if (was == v) {
            return NOT;
        }
        past.keep(now);
        now.parts[place] = v;
        return was + MOST_PART;
    }

    public int gain(int v) {
        if (!isGain(v)) {
            return BAD;
        }
        int was = now.gainTold;
        if (was == v) {
            return NOT;
        }
        past.keep(now);
        now.gainTold = v;
        return was + MOST_GAIN;
    }

    public int told(int which, int k) {
        if (!isChoice(which, 2) || !isChoice(k, PARTS)) {
            return BAD;
        }
        return now.parts[which * PARTS + k] + MOST_PART;
    }

    public int count(int what) {
        switch (what) {
            case 0:
                return now.gainTold + MOST_GAIN;
            case 1:
                return orNone(now.degreeTold(0));
            case 2:
                return orNone(now.degreeTold(1));
            case 3:
                now.fillLoop(poly, now.gainTold);
                return orNone(degreeOf(poly));
            case 4:
                return past.known;
            default:
                return BAD;
        }
    }

    public int roots(int by, int what) {
        return countRoots(by, now.gainTold, what);
    }

    public int at(int by, int v, int what) {
        return countRoots(by, v, what);
    }

    public long row(int i, int k, int what) {
        if (i < 0 || !isChoice(k, PARTS) || !isChoice(what, 2)) {
            return BAD;
        }
        now.fillLoop(poly, now.gainTold);
        judge.chain.fill(poly);
        if (i >= judge.chain.size) {
            return NONE;
        }
        long value = judge.chain.lines[i][k];
        if (what == 0) {
            return Math.abs(value);
        }
        return value == 0 ? 0 : value > 0 ? 1 : 2;
    }

    public int rows() {
        now.fillLoop(poly, now.gainTold);
        judge.chain.fill(poly);
        return judge.chain.size;
    }

    // ---- 2 spans, boxes

    public int span(int by, int k, int what) {
        if (!isChoice(by, 2) || k < 0 || !isChoice(what, 2)) {
            return BAD;
        }
        SpanBook book = bookOf(by);
        return k < book.size ? book.endOf(k, what) : NONE;
    }

    public int widest(int by, int k, int what) {
        if (!isChoice(by, 2) || k < 0 || !isChoice(what, 2)) {
            return BAD;
        }
        SpanBook book = bookOf(by);
        return k < book.size ? book.endOf(book.byWidth[k], what) : NONE;
    }

    public int spans(int by, int what) {
        if (!isChoice(by, 2) || !isChoice(what, 2)) {
            return BAD;
        }
        SpanBook book = bookOf(by);
        return what == 0 ? book.size : book.steadyGains;
    }

    public int corners(int r) {
        if (r < 0 || r > MOST_RADIUS) {
            return BAD;
        }
        int steady = 0;
        for (int c = 0; c < CORNERS; c++) {
            for (int k = 0; k < PARTS; k++) {
                poly[k] = now.parts[k] + r * CORNER_SIDES[c * PARTS + k];
            }
            if (judge.isSteady(AXIS, poly)) {
                steady++;
            }
        }
        return steady;
    }

    public int neighbours(int by) {
        if (!isChoice(by, 2)) {
            return BAD;
        }
        int steady = 0;
        for (int code = 0; code < NEIGHBOURS; code++) {
            int rest = code;
            for (int k = 0; k < PARTS; k++) {
                poly[k] = now.parts[k] + rest % 3 - 1;
                rest /= 3;
            }
            if (judge.isSteady(by, poly)) {
                steady++;
            }
        }
        return steady;
    }

    public int off(int c, int what) {
        if (c < 0 || c > TENTHS || !isChoice(what, 2)) {
            return BAD;
        }
        int above = 0;
        for (int set = 0; set < SETS_OF_PARTS; set++) {
            for (int k = 0; k < PARTS; k++) {
                poly[k] = now.parts[k] + ((set >> k) & 1);
            }
            if (judge.isSteady(AXIS, poly)) {
                above += oddsOf(c, Integer.bitCount(set));
            }
        }
        int common = (int) commonDivisor(above, ALL_ODDS);
        if (common < 1) {
            common = 1;
        }
        return what == 0 ? above / common : ALL_ODDS / common;
    }

    // ---- 3 what is done

    public int type(int letter) {
        if (letter < FIRST_LETTER || letter > LAST_LETTER) {
            return BAD;
        }
        return tape.append(letter) ? tape.size : FULL;
    }

    public int read() {
        int fault = tape.readText();
        tape.size = 0;
        if (fault != NO_FAULT) {
            return FIRST_FAULT - fault;
        }
        past.keep(now);
        System.arraycopy(tape.parts, 0, now.parts, 0, tape.tellsQ ? 2 * PARTS : PARTS);
        return orNone(now.degreeTold(0));
    }

    public int drift(int n) {
        if (n < 1 || n > MOST_TURNS) {
            return BAD;
        }
        for (int turn = 0; turn < n; turn++) {
            past.keep(now);
            now.drawOnce();
        }
        return orNone(now.degreeTold(0));
    }

    public int undo() {
        if (past.known == 0) {
            return NONE;
        }
        past.giveBack(now);
        return past.known;
    }

    public int seed(int v) {
        if (v < 0) {
            return BAD;
        }
        int was = now.draw;
        now.draw = v;
        return was;
    }

    public int image() {
        keptNow.become(now);
        keptPast.become(past);
        kept = true;
        return 1;
    }

    public int restore() {
        if (!kept) {
            return NONE;
        }
        now.become(keptNow);
        past.become(keptPast);
        return 1;
    }

    // ---- sheets

    public int judged(int sheet, int lane, int i, int n) {
        if (!isChoice(sheet, SHEETS) || !isChoice(lane, LANES) || n < 1 || n > MOST_JUDGED) {
            return BAD;
        }
        int refusal = shelf.refusal(sheet, lane, i, PARTS * n);
        if (refusal != 0) {
            return refusal;
        }
        if (!shelf.holdsParts(sheet, i, PARTS * n)) {
            return NOT;
        }
        int set = 0;
        for (int m = 0; m < n; m++) {
            System.arraycopy(shelf.items[sheet], i + PARTS * m, poly, 0, PARTS);
            if (judge.isSteady(AXIS, poly)) {
                set |= 1 << m;
            }
            if (judge.isSteady(CIRCLE, poly)) {
                set |= 1 << (CIRCLE_BITS + m);
            }
        }
        return set;
    }

    public int film(int which, int sheet, int lane, int i) {
        if (!isChoice(which, 2) || !isChoice(sheet, SHEETS) || !isChoice(lane, LANES)) {
            return BAD;
        }
        int refusal = shelf.refusal(sheet, lane, i, PARTS);
        if (refusal != 0) {
            return refusal;
        }
        for (int k = 0; k < PARTS; k++) {
            shelf.items[sheet][i + k] = now.parts[which * PARTS + k];
        }
        return PARTS;
    }

    public int sheet(int sheet, int lane, int n) {
        if (!isChoice(sheet, SHEETS) || !isChoice(lane, LANES) || n > MOST_ITEMS) {
            return BAD;
        }
        if (n < 0) {
            return SIZE;
        }
        shelf.renew(sheet, lane, n);
        return n;
    }

    public int drop(int sheet) {
        if (!isChoice(sheet, SHEETS)) {
            return BAD;
        }
        if (shelf.isMissing(sheet)) {
            return NULL;
        }
        int had = shelf.sizes[sheet];
        shelf.remove(sheet);
        return had;
    }

    public int item(int sheet, int lane, int i, long v) {
        if (!isChoice(sheet, SHEETS) || !isChoice(lane, LANES)) {
            return BAD;
        }
        int refusal = shelf.refusal(sheet, lane, i, 1);
        if (refusal != 0) {
            return refusal;
        }
        shelf.items[sheet][i] = cutTo(lane, v);
        return 1;
    }

    public int copy(int from, int i, int to, int j, int n) {
        if (!isChoice(from, SHEETS) || !isChoice(to, SHEETS)) {
            return BAD;
        }
        if (shelf.isMissing(from) || shelf.isMissing(to)) {
            return NULL;
        }
        if (shelf.lanes[from] != shelf.lanes[to]) {
            return CAST;
        }
        if (!shelf.hasItems(from, i, n) || !shelf.hasItems(to, j, n)) {
            return INDEX;
        }
        System.arraycopy(shelf.items[from], i, shelf.items[to], j, n);
        return n;
    }

    // ---- what the calls share

    private int countRoots(int by, int v, int what) {
        if (!isChoice(by, 2) || !isGain(v) || !isChoice(what, 4)) {
            return BAD;
        }
        now.fillLoop(poly, v);
        if (degreeOf(poly) == NO_DEGREE) {
            return NONE;
        }
        judge.countRootsOf(by, poly);
        switch (what) {
            case RIGHT:
                return judge.right;
            case EVEN:
                return judge.even;
            case LEFT:
                return judge.left;
            default:
                return judge.right == 0 && judge.even == 0 ? 1 : 0;
        }
    }

    private SpanBook bookOf(int by) {
        SpanBook book = by == AXIS ? axisSpans : circleSpans;
        book.refresh(now, judge);
        return book;
    }

    private static boolean isChoice(int v, int choices) {
        return v >= 0 && v < choices;
    }

    private static boolean isPart(long v) {
        return v >= -MOST_PART && v <= MOST_PART;
    }

    private static boolean isGain(int v) {
        return v >= -MOST_GAIN && v <= MOST_GAIN;
    }

    private static int orNone(int degree) {
        return degree == NO_DEGREE ? NONE : degree;
    }

    private static int degreeOf(long[] parts) {
        for (int k = TOP; k >= 0; k--) {
            if (parts[k] != 0) {
                return k;
            }
        }
        return NO_DEGREE;
    }

    /** Of a hundred thousand, how often just these raised PARTS come, each by c of ten. */
    private static int oddsOf(int c, int raised) {
        int odds = 1;
        for (int k = 0; k < PARTS; k++) {
            odds *= k < raised ? c : TENTHS - c;
        }
        return odds;
    }

    private static long commonDivisor(long a, long b) {
        long x = a < 0 ? -a : a;
        long y = b < 0 ? -b : b;
        // Euclid's way takes fewer than a hundred steps on longs
        for (int step = 0; step < 200 && y != 0; step++) {
            long rest = x % y;
            x = y;
            y = rest;
        }
        return x;
    }

    private static long cutTo(int lane, long v) {
        switch (lane) {
            case 0:
                return (byte) v;
            case 1:
                return (short) v;
            case 2:
                return (int) v;
            default:
                return v;
        }
    }

    /** What an undoing brings back: the PARTS of P, then those of Q, GAIN and THE DRAW. */
    private static final class Setting {
        final int[] parts;
        int gainTold;
        int draw;

        Setting() {
            parts = new int[2 * PARTS];
            gainTold = 0;
            draw = 1;
        }

        void begin() {
            parts[0] = 1;
            parts[1] = 1;
            parts[PARTS] = 1;
        }

        void become(Setting other) {
            System.arraycopy(other.parts, 0, parts, 0, 2 * PARTS);
            gainTold = other.gainTold;
            draw = other.draw;
        }

        int degreeTold(int which) {
            for (int k = TOP; k >= 0; k--) {
                if (parts[which * PARTS + k] != 0) {
                    return k;
                }
            }
            return NO_DEGREE;
        }

        void fillLoop(long[] loop, int v) {
            for (int k = 0; k < PARTS; k++) {
                loop[k] = EIGHTHS * parts[k] + v * parts[PARTS + k];
            }
        }

        void drawOnce() {
            draw = (draw * 1103515245 + 12345) & LOWEST_BITS;
            int x = draw / 65536;
            parts[(x % 2) * PARTS + (x / 2) % PARTS] = (x / 16) % 19 - MOST_PART;
        }
    }

    /** The latest settings, as they were ahead of what was done; a ring, so that the oldest is lost. */
    private static final class Past {
        private static final int MOST_KNOWN = 6;

        final Setting[] settings;
        int newest;
        int known;

        Past() {
            settings = new Setting[MOST_KNOWN];
            for (int i = 0; i < MOST_KNOWN; i++) {
                settings[i] = new Setting();
            }
            newest = 0;
            known = 0;
        }

        void keep(Setting setting) {
            newest = (newest + 1) % MOST_KNOWN;
            settings[newest].become(setting);
            if (known < MOST_KNOWN) {
                known++;
            }
        }

        void giveBack(Setting setting) {
            setting.become(settings[newest]);
            newest = (newest + MOST_KNOWN - 1) % MOST_KNOWN;
            known--;
        }

        void become(Past other) {
            for (int i = 0; i < MOST_KNOWN; i++) {
                settings[i].become(other.settings[i]);
            }
            newest = other.newest;
            known = other.known;
        }
    }

    /** The ROWS of a polynomial: its two halves, and what remains of each by the next. */
    private static final class Chain {
        final long[][] lines;
        final int[] degrees;
        int size;

        Chain() {
            lines = new long[PARTS][PARTS];
            degrees = new int[PARTS];
            size = 0;
        }

        void fill(long[] parts) {
            size = 0;
            int degree = degreeOf(parts);
            if (degree == NO_DEGREE) {
                return;
            }
            addHalf(parts, degree % 2);
            addHalf(parts, 1 - degree % 2);
            for (int i = 2; i < PARTS && size == i; i++) {
                addRemainder(i);
            }
        }

        private void addHalf(long[] parts, int oddness) {
            long[] line = lines[size];
            for (int k = 0; k < PARTS; k++) {
                line[k] = k % 2 == oddness ? parts[k] : 0;
            }
            addUnlessZero();
        }

        private void addRemainder(int i) {
            long[] rest = lines[i];
            System.arraycopy(lines[i - 2], 0, rest, 0, PARTS);
            int low = degrees[i - 1];
            // a half has every other power alone
            for (int k = degrees[i - 2]; k > low; k -= 2) {
                strike(rest, k, lines[i - 1], low);
                takeLowestTerms(rest);
            }
            addUnlessZero();
        }

        private void addUnlessZero() {
            degrees[size] = degreeOf(lines[size]);
            if (degrees[size] != NO_DEGREE) {
                size++;
            }
        }

        /** The line is only ever stretched by a number above 0: the signs of what remains must stay. */
        private static void strike(long[] rest, int k, long[] divisor, int low) {
            long lead = divisor[low];
            long times = lead < 0 ? -rest[k] : rest[k];
            if (times == 0) {
                return;
            }
            for (int j = 0; j < PARTS; j++) {
                rest[j] *= Math.abs(lead);
            }
            for (int j = 0; j <= low; j++) {
                rest[k - low + j] -= times * divisor[j];
            }
        }

        private static void takeLowestTerms(long[] line) {
            long common = 0;
            for (int k = 0; k < PARTS; k++) {
                common = commonDivisor(line[k], common);
            }
            if (common < 2) {
                return;
            }
            for (int k = 0; k < PARTS; k++) {
                line[k] /= common;
            }
        }
    }

    /** Counts roots by the signs in a chain, and tells steadiness alone by a shorter way. */
    private static final class Judge {
        final Chain chain;
        final long[] turned;
        int right;
        int even;
        int left;

        Judge() {
            chain = new Chain();
            turned = new long[PARTS];
            right = 0;
            even = 0;
            left = 0;
        }

        void countRootsOf(int by, long[] parts) {
            if (by == AXIS) {
                chain.fill(parts);
                countByChain();
                return;
            }
            turn(parts);
            chain.fill(turned);
            countByChain();
            // a root -1 goes to no number at all by the change of variable: the degree falls instead
            even += TOP - degreeOf(turned);
            left -= TOP - degreeOf(parts);
        }

        boolean isSteady(int by, long[] parts) {
            if (by == AXIS) {
                return isSteadyByAxis(parts);
            }
            if (degreeOf(parts) == NO_DEGREE) {
                return false;
            }
            turn(parts);
            return turned[TOP] != 0 && isSteadyByAxis(turned);
        }

        /**
         * Puts (1 + w) / (1 - w) for s, times the fourth power of 1 - w: the circle's inside becomes what is
         * left of the axis. What has a lesser degree first gets as many roots 0 (LEFT ones) as it lacks.
         */
        private void turn(long[] parts) {
            int lack = TOP - degreeOf(parts);
            long b0 = partBelow(parts, 0, lack);
            long b1 = partBelow(parts, 1, lack);
            long b2 = partBelow(parts, 2, lack);
            long b3 = partBelow(parts, 3, lack);
            long b4 = partBelow(parts, 4, lack);
            turned[0] = b0 + b1 + b2 + b3 + b4;
            turned[1] = 4 * (b4 - b0) + 2 * (b3 - b1);
            turned[2] = 6 * (b4 + b0) - 2 * b2;
            turned[3] = 4 * (b4 - b0) - 2 * (b3 - b1);
            turned[4] = b0 - b1 + b2 - b3 + b4;
        }

        private static long partBelow(long[] parts, int k, int lack) {
            return k < lack || k >= PARTS ? 0 : parts[k - lack];
        }

        /**
         * The last line holds the roots that lie evenly about the axis. Of the others, LEFT less RIGHT is how
         * far the signs along the axis turn, which a chain of remainders tells at its two ends.
         */
        private void countByChain() {
            right = 0;
            even = 0;
            left = 0;
            if (chain.size == 0) {
                return;
            }
            int common = chain.degrees[chain.size - 1];
            int others = chain.degrees[0] - common;
            int turns = signTurns();
            even = rootsOnAxis(chain.lines[chain.size - 1], common);
            right = (others - turns + common - even) / 2;
            left = (others + turns + common - even) / 2;
        }

        /** How many more changes of sign the chain has far below on the axis than far above. */
        private int signTurns() {
            int turns = 0;
            int degreeTwoAhead = chain.degrees[0] + 1;
            int degreeAhead = chain.degrees[0];
            boolean minusAhead = chain.lines[0][degreeAhead] < 0;
            for (int i = 1; i < chain.size; i++) {
                int degree = chain.degrees[i];
                // along the axis s times s is below 0: a gap of two degrees more turns the sign, and that of
                // each second line behind it, of which there is none where a degree is at most four
                boolean flipped = (degreeTwoAhead - degree) % 4 == 0;
                boolean minus = flipped != (chain.lines[i][degree] < 0);
                // of two lines one is even, one odd: their signs differ at just one of the two ends
                turns += minus == minusAhead ? 1 : -1;
                degreeTwoAhead = degreeAhead;
                degreeAhead = degree;
                minusAhead = minus;
            }
            return turns;
        }

        /** Of a line whose powers are all even or all odd, a polynomial in s times s but for roots 0. */
        private static int rootsOnAxis(long[] line, int degree) {
            int zeros = 0;
            while (zeros < degree && line[zeros] == 0) {
                zeros++;
            }
            if (degree - zeros == 2) {
                return (line[degree] < 0) == (line[zeros] < 0) ? degree : zeros;
            }
            if (degree - zeros == 4) {
                return rootsOnAxisOfFour(line[4], line[2], line[0]);
            }
            return zeros;
        }

        /** Twice as many as a x x + b x + c has roots below 0; a and c are not 0. */
        private static int rootsOnAxisOfFour(long a, long b, long c) {
            if ((a < 0) != (c < 0)) {
                return 2;
            }
            boolean real = b * b >= 4 * a * c;
            return real && b != 0 && (a < 0) == (b < 0) ? 4 : 0;
        }

        /**
         * All PARTS up to the DEGREE bear one sign, and the last determinants are above 0: what the rows would
         * tell, too, but spans and boxes ask so often that no chain is made for it.
         */
        private static boolean isSteadyByAxis(long[] p) {
            int degree = degreeOf(p);
            if (degree == NO_DEGREE) {
                return false;
            }
            boolean minus = p[degree] < 0;
            for (int k = 0; k < degree; k++) {
                if (p[k] == 0 || (p[k] < 0) != minus) {
                    return false;
                }
            }
            if (degree < 3) {
                return true;
            }
            // of degree three PART 4 is 0, and the sign of PART 3 falls away against that of minus
            long last = p[3] * (p[2] * p[1] - p[3] * p[0]) - p[4] * p[1] * p[1];
            return minus ? last < 0 : last > 0;
        }
    }

    /** The SPANS by one way of judging, kept until P or Q is another. */
    private static final class SpanBook {
        /**
         * Steadiness goes by the signs of five numbers linear in GAIN and of one cubic in it, and may differ
         * at the one GAIN where the degree falls: there are never more than a dozen SPANS.
         */
        private static final int MOST_SPANS = 32;

        final int by;
        final int[] parts;
        final long[] loop;
        final int[] least;
        final int[] greatest;
        final int[] byWidth;
        boolean made;
        int size;
        int steadyGains;

        SpanBook(int by) {
            this.by = by;
            parts = new int[2 * PARTS];
            loop = new long[PARTS];
            least = new int[MOST_SPANS];
            greatest = new int[MOST_SPANS];
            byWidth = new int[MOST_SPANS];
            made = false;
            size = 0;
            steadyGains = 0;
        }

        void refresh(Setting setting, Judge judge) {
            if (made && isOf(setting)) {
                return;
            }
            System.arraycopy(setting.parts, 0, parts, 0, 2 * PARTS);
            made = true;
            collect(setting, judge);
            orderByWidth();
        }

        int endOf(int k, int what) {
            return (what == 0 ? least[k] : greatest[k]) + MOST_GAIN;
        }

        private boolean isOf(Setting setting) {
            for (int k = 0; k < 2 * PARTS; k++) {
                if (parts[k] != setting.parts[k]) {
                    return false;
                }
            }
            return true;
        }

        private void collect(Setting setting, Judge judge) {
            size = 0;
            steadyGains = 0;
            for (int v = -MOST_GAIN; v <= MOST_GAIN; v++) {
                setting.fillLoop(loop, v);
                if (judge.isSteady(by, loop)) {
                    steadyGains++;
                    addGain(v);
                }
            }
        }

        private void addGain(int v) {
            if (size > 0 && greatest[size - 1] == v - 1) {
                greatest[size - 1] = v;
            } else if (size < MOST_SPANS) {
                least[size] = v;
                greatest[size] = v;
                size++;
            }
        }

        private void orderByWidth() {
            for (int k = 0; k < size; k++) {
                int place = k;
                while (place > 0 && widthOf(byWidth[place - 1]) < widthOf(k)) {
                    byWidth[place] = byWidth[place - 1];
                    place--;
                }
                byWidth[place] = k;
            }
        }

        private int widthOf(int k) {
            return greatest[k] - least[k];
        }
    }

    /** THE TAPE, and what it tells when it is read as a TEXT. */
    private static final class Tape {
        private static final int MOST_LETTERS = 60;
        private static final int END = -1;

        final byte[] letters;
        final int[] parts;
        boolean tellsQ;
        int size;
        private int place;
        private int figure;
        private int power;

        Tape() {
            letters = new byte[MOST_LETTERS];
            parts = new int[2 * PARTS];
            tellsQ = false;
            size = 0;
            place = 0;
            figure = 0;
            power = 0;
        }

        boolean append(int letter) {
            if (size >= MOST_LETTERS) {
                return false;
            }
            letters[size] = (byte) letter;
            size++;
            return true;
        }

        /** The place of the FAULT, or NO_FAULT. */
        int readText() {
            Arrays.fill(parts, 0);
            tellsQ = false;
            place = 0;
            int fault = readTerms(0);
            if (fault == NO_FAULT && nextLetter() == ';') {
                place++;
                tellsQ = true;
                fault = readTerms(PARTS);
            }
            if (fault == NO_FAULT && nextLetter() != END) {
                fault = place;
            }
            return fault;
        }

        private int readTerms(int base) {
            int powerAhead = PARTS;
            int sign = 1;
            if (nextLetter() == '-') {
                sign = -1;
                place++;
            }
            for (int term = 0; term < MOST_LETTERS; term++) {
                nextLetter();
                int start = place;
                if (!readTerm() || power >= powerAhead) {
                    return start;
                }
                parts[base + power] = sign * figure;
                powerAhead = power;
                int letter = nextLetter();
                if (letter != '+' && letter != '-') {
                    return NO_FAULT;
                }
                sign = letter == '+' ? 1 : -1;
                place++;
            }
            return place;
        }

        /** False, and nothing read, where no TERM can begin. */
        private boolean readTerm() {
            int letter = nextLetter();
            figure = 1;
            power = 0;
            if (letter >= '1' && letter <= '9') {
                figure = letter - '0';
                place++;
                letter = nextLetter();
            } else if (letter != 's') {
                return false;
            }
            if (letter == 's') {
                place++;
                readPower();
            }
            return true;
        }

        private void readPower() {
            int letter = nextLetter();
            power = 1;
            if (letter >= '2' && letter <= '4') {
                power = letter - '0';
                place++;
            }
        }

        /** The letter behind blanks, which stays the next one until place goes on. */
        private int nextLetter() {
            while (place < size && letters[place] == ' ') {
                place++;
            }
            return place >= 0 && place < size ? letters[place] : END;
        }
    }

    /** The SHEETS: items are held as longs, whatever their LANE, so that a new row needs no new array. */
    private static final class Shelf {
        private static final int NOTHING = -1;

        final int[] lanes;
        final int[] sizes;
        final long[][] items;

        Shelf() {
            lanes = new int[SHEETS];
            sizes = new int[SHEETS];
            items = new long[SHEETS][MOST_ITEMS];
            for (int i = 0; i < SHEETS; i++) {
                lanes[i] = NOTHING;
            }
        }

        boolean isMissing(int which) {
            return lanes[which] == NOTHING;
        }

        void renew(int which, int lane, int n) {
            lanes[which] = lane;
            sizes[which] = n;
            Arrays.fill(items[which], 0);
        }

        void remove(int which) {
            lanes[which] = NOTHING;
            sizes[which] = 0;
        }

        /** NULL, CAST or INDEX, if n items from i on can't be taken as those of a LANE; else 0. */
        int refusal(int which, int lane, int i, int n) {
            if (isMissing(which)) {
                return NULL;
            }
            if (lanes[which] != lane) {
                return CAST;
            }
            return hasItems(which, i, n) ? 0 : INDEX;
        }

        boolean hasItems(int which, int i, int n) {
            return i >= 0 && n >= 0 && i <= sizes[which] - n;
        }

        boolean holdsParts(int which, int i, int n) {
            for (int k = i; k < i + n; k++) {
                if (!isPart(items[which][k])) {
                    return false;
                }
            }
            return true;
        }
    }
}
