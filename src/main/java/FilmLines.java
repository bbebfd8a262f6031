/**
 * Pictures that run: frames cut to blocks, shows over a changing line, what towns keep, who may see what,
 * marks, groups with sums, and a tree that heals. The document's promises are numbered; so are the parts here.
 *
 * <p>Every row is made when the object is made and used again: no call makes an object.
 */
public final class FilmLines {
    public static final int NONE = -6, UNKNOWN = -1, OUTSIDE = -2, STATE = -3, FULL = -4, NO = -5;
    public static final long LOST = -1000000000000000000L;

    private static final int BITS = 0, SCENE = 1, START = 2, RATE = 3, FREE = 4, WITHIN = 5, FAN = 6;
    private static final int[] SETTING_LEAST = {0, 0, 1, 0, 0, 0, 1};
    private static final int[] SETTING_MOST = {80, 240, 8, 100, 60, 1000, 9};

    private final int[] settings = {30, 60, 2, 3, 5, 30, 2};
    private final Frames frames = new Frames();
    private final Film theFilm = new Film();
    private final Rule theRule = new Rule();
    private final Show ruleShow = new Show();
    private final BestSearch search = new BestSearch();
    private final Towns towns = new Towns();
    private final Rights rights = new Rights();
    private final Marks marks = new Marks();
    private final Groups groups = new Groups();
    private final Nodes nodes = new Nodes();
    private boolean showHolds;
    private boolean bestHolds;

    public FilmLines() {
    }

    // ---- 1 frames

    public int frame() {
        if (frames.count == Frames.MOST) {
            return FULL;
        }
        return frames.add();
    }

    public int dot(int frame, int dot, int v) {
        if (!frames.has(frame)) {
            return UNKNOWN;
        }
        if (!between(dot, 0, Frames.DOTS - 1) || !between(v, 0, 15)) {
            return OUTSIDE;
        }
        return frames.changeDot(frame, dot, v);
    }

    public int key(int frame, boolean is) {
        if (!frames.has(frame)) {
            return UNKNOWN;
        }
        if (frame == 0) {
            return NO;
        }
        return frames.changeKey(frame, is) ? 1 : 0;
    }

    public int set(int which, int v) {
        if (!between(which, BITS, FAN) || !between(v, SETTING_LEAST[which], SETTING_MOST[which])) {
            return OUTSIDE;
        }
        int was = settings[which];
        settings[which] = v;
        if (which == BITS) {
            frames.forgetCutsFrom(0);
        }
        if (which == START) {
            forgetShows();
        }
        return was;
    }

    public int way(int frame, int block) {
        if (!frames.has(frame) || !between(block, 0, Frames.BLOCKS - 1)) {
            return UNKNOWN;
        }
        frames.cutUpTo(frame, settings[BITS]);
        return frames.ways[frame * Frames.BLOCKS + block];
    }

    public int opened(int frame, int dot) {
        if (!frames.has(frame)) {
            return UNKNOWN;
        }
        if (!between(dot, 0, Frames.DOTS - 1)) {
            return OUTSIDE;
        }
        frames.cutUpTo(frame, settings[BITS]);
        return frames.openedDots[frame * Frames.DOTS + dot];
    }

    public int of(int frame, int what) {
        if (!frames.has(frame)) {
            return UNKNOWN;
        }
        switch (what) {
            case 0:
                frames.cutUpTo(frame, settings[BITS]);
                return frames.cutBits[frame];
            case 1:
                frames.cutUpTo(frame, settings[BITS]);
                return frames.cutLoss[frame];
            case 2:
                return frames.unlike(frame);
            case 3:
                return frames.isScene(frame, settings[SCENE]) ? 1 : 0;
            case 4:
                return frames.isStill(frame) ? 1 : 0;
            default:
                return OUTSIDE;
        }
    }

    // ---- 2 shows

    public int pieces(int n) {
        if (!between(n, 1, Film.MOST)) {
            return OUTSIDE;
        }
        int was = theFilm.count;
        theFilm.count = n;
        forgetShows();
        return was;
    }

    public int bits(int piece, int size, int v) {
        if (!between(piece, 0, Film.MOST - 1)) {
            return UNKNOWN;
        }
        if (!between(size, 0, Film.SIZES - 1) || !between(v, 1, 1000)) {
            return OUTSIDE;
        }
        forgetShows();
        return theFilm.changeBits(piece, size, v);
    }

    public int doors(int bits) {
        if (!between(bits, 0, 255)) {
            return OUTSIDE;
        }
        int was = theFilm.doors;
        theFilm.doors = bits;
        forgetShows();
        return was;
    }

    public int line(int from, int to, int v) {
        if (!between(from, 0, Film.SECONDS - 1) || !between(to, from, Film.SECONDS - 1) || !between(v, 0, 1000)) {
            return OUTSIDE;
        }
        theFilm.changeLine(from, to, v);
        forgetShows();
        return 1;
    }

    public int say(int sign) {
        if (!between(sign, 33, 126)) {
            return OUTSIDE;
        }
        if (theRule.count == Rule.MOST) {
            return FULL;
        }
        return theRule.addSign(sign);
    }

    public int wipe() {
        return theRule.dropSigns();
    }

    public int fault() {
        return theRule.firstFault();
    }

    public int rule() {
        if (theRule.firstFault() != NONE) {
            return NO;
        }
        theRule.adopt();
        showHolds = false;
        return 1;
    }

    public int show(int what) {
        if (!Show.tells(what)) {
            return OUTSIDE;
        }
        if (!showHolds) {
            ruleShow.run(theFilm, theRule, settings[START]);
            showHolds = true;
        }
        return ruleShow.answer(what);
    }

    public int best(int what) {
        if (!Show.tells(what)) {
            return OUTSIDE;
        }
        if (!bestHolds) {
            search.seek(theFilm, settings[START]);
            bestHolds = true;
        }
        return search.found.answer(what);
    }

    // ---- 3 stores

    public int town(int town, int what, int v) {
        if (!between(town, 0, Towns.MOST - 1)) {
            return UNKNOWN;
        }
        if (!between(what, 0, 1) || !between(v, 0, 100)) {
            return OUTSIDE;
        }
        return what == 0 ? towns.changeRoom(town, v) : towns.changeFar(town, v);
    }

    public int weight(int film, int v) {
        if (!isFilm(film)) {
            return UNKNOWN;
        }
        if (!between(v, 1, 50)) {
            return OUTSIDE;
        }
        return towns.changeWeight(film, v);
    }

    public int ask(int town, int film, int n) {
        if (!between(town, 0, Towns.MOST - 1) || !isFilm(film)) {
            return UNKNOWN;
        }
        if (!between(n, 0, 1000)) {
            return OUTSIDE;
        }
        return towns.changeAsks(town, film, n);
    }

    public int kept(int town, int what) {
        if (!between(town, 0, Towns.MOST - 1)) {
            return UNKNOWN;
        }
        if (!between(what, 0, 1)) {
            return OUTSIDE;
        }
        int films = towns.bestFilms(town);
        return what == 0 ? films : towns.costOf(town, films);
    }

    // ---- 4 rights

    public int right(int film, int land, int from, int to, int times) {
        if (!isFilm(film) || !between(land, 0, Rights.LANDS - 1)) {
            return UNKNOWN;
        }
        if (!between(from, 0, 999) || !between(to, from, 999) || !between(times, 1, 20)) {
            return OUTSIDE;
        }
        if (rights.count == Rights.MOST) {
            return FULL;
        }
        return rights.add(film, land, from, to, times);
    }

    public int land(int seer, int land) {
        if (!isSeer(seer) || !between(land, 0, Rights.LANDS - 1)) {
            return UNKNOWN;
        }
        return rights.changeLand(seer, land);
    }

    public int may(int seer, int film, int hour) {
        if (!isSeer(seer) || !isFilm(film)) {
            return UNKNOWN;
        }
        if (!between(hour, 0, 999)) {
            return OUTSIDE;
        }
        return rights.allow(seer, film, hour) ? 1 : 0;
    }

    public int see(int seer, int film, int hour, int from, int to) {
        if (!isSeer(seer) || !isFilm(film)) {
            return UNKNOWN;
        }
        if (!between(hour, 0, 999) || !between(from, 0, 59) || !between(to, from, 59)) {
            return OUTSIDE;
        }
        if (!rights.allow(seer, film, hour)) {
            return NO;
        }
        return rights.addSeeing(seer, film, from, to);
    }

    public int seen(int seer, int film, int what) {
        if (!isSeer(seer) || !isFilm(film)) {
            return UNKNOWN;
        }
        if (!between(what, 0, 1)) {
            return OUTSIDE;
        }
        return what == 0 ? rights.secondsSeen(seer, film) : rights.timesSeen(seer, film);
    }

    public int owed(int film) {
        if (!isFilm(film)) {
            return UNKNOWN;
        }
        return rights.owedFor(film, settings[RATE], settings[FREE]);
    }

    // ---- 5 marks

    public int mark(int seer, int bits) {
        if (!isSeer(seer)) {
            return UNKNOWN;
        }
        if (!between(bits, 0, 255)) {
            return OUTSIDE;
        }
        return marks.change(seer, bits);
    }

    public int blame(int known, int is, int what) {
        if (!between(known, 0, 255) || !between(is, 0, 255)) {
            return OUTSIDE;
        }
        switch (what) {
            case 0:
                return marks.blamed(known, is);
            case 1:
                return marks.pairs(known, is);
            case 2:
                return marks.firstPair(known, is);
            case 3:
                return 1 << Integer.bitCount(known);
            default:
                return OUTSIDE;
        }
    }

    // ---- 6 groups

    public int put(int group, int i, int v) {
        if (!between(group, 0, Groups.MOST - 1)) {
            return UNKNOWN;
        }
        if (!between(i, 0, Groups.SIZE - 1) || !between(v, 0, 65535)) {
            return OUTSIDE;
        }
        return groups.change(group, i, v);
    }

    public int sum(int group, int which) {
        if (!between(group, 0, Groups.MOST - 1)) {
            return UNKNOWN;
        }
        if (!between(which, 0, 1)) {
            return OUTSIDE;
        }
        return which == 0 ? groups.plainSum(group) : groups.placeSum(group);
    }

    public int restore(int group, int lost, int i) {
        if (!between(group, 0, Groups.MOST - 1)) {
            return UNKNOWN;
        }
        if (!between(lost, 0, 255) || !between(i, 0, Groups.SIZE - 1)) {
            return OUTSIDE;
        }
        if ((lost >> i & 1) == 0) {
            return NO;
        }
        return Groups.restorable(lost) ? groups.numberAt(group, i) : NONE;
    }

    // ---- 7 trees

    public int hang(int node, int on, int delay) {
        if (!isNode(node) || !isNode(on)) {
            return UNKNOWN;
        }
        if (!between(delay, 1, 100)) {
            return OUTSIDE;
        }
        if (nodes.fallen[node] || nodes.fallen[on]) {
            return STATE;
        }
        if (on >= node) {
            return NO;
        }
        if (nodes.hangingOn(on, node) >= settings[FAN]) {
            return FULL;
        }
        return nodes.rehang(node, on, delay);
    }

    public int behind(int node) {
        if (!isNode(node)) {
            return UNKNOWN;
        }
        if (nodes.fallen[node]) {
            return STATE;
        }
        return nodes.delayUpTo0(node);
    }

    public int fall(int node) {
        if (!isNode(node)) {
            return UNKNOWN;
        }
        if (nodes.fallen[node]) {
            return STATE;
        }
        if (node == 0) {
            return NO;
        }
        return nodes.drop(node, settings[FAN]);
    }

    public int tree(int what) {
        if (what == 0) {
            return nodes.standing();
        }
        if (what == 1) {
            return nodes.standingWithin(settings[WITHIN]);
        }
        if (!between(what, 10, 10 + Nodes.MOST - 1)) {
            return OUTSIDE;
        }
        return nodes.hangsOn(what - 10);
    }

    public int told(int what) {
        switch (what) {
            case 0:
                return frames.count;
            case 1:
                return frames.scenes(settings[SCENE]);
            case 2:
                return frames.stills();
            case 3:
                return theRule.count;
            case 4:
                return rights.count;
            case 5:
                return theFilm.count;
            case 6:
                return theFilm.doors;
            default:
                return OUTSIDE;
        }
    }

    private static boolean between(int v, int least, int most) {
        return v >= least && v <= most;
    }

    private static boolean isFilm(int film) {
        return between(film, 0, Towns.FILMS - 1);
    }

    private static boolean isSeer(int seer) {
        return between(seer, 0, Rights.SEERS - 1);
    }

    private static boolean isNode(int node) {
        return between(node, 0, Nodes.MOST - 1);
    }

    private void forgetShows() {
        showHolds = false;
        bestHolds = false;
    }

    /** The FRAMES, and the CUT of as many of them, from 0 on, as nothing has touched since. */
    static final class Frames {
        static final int MOST = 10, DOTS = 16, BLOCKS = 4;

        final int[] dots = new int[MOST * DOTS];
        final int[] openedDots = new int[MOST * DOTS];
        final boolean[] keys = new boolean[MOST];
        final int[] ways = new int[MOST * BLOCKS];
        final int[] cutBits = new int[MOST];
        final int[] cutLoss = new int[MOST];
        private final Cutter cutter = new Cutter();
        int count;
        private int cutCount;

        boolean has(int frame) {
            return frame >= 0 && frame < count;
        }

        int add() {
            int frame = count;
            keys[frame] = frame == 0;
            count++;
            return frame;
        }

        int changeDot(int frame, int dot, int v) {
            int was = dots[frame * DOTS + dot];
            dots[frame * DOTS + dot] = v;
            forgetCutsFrom(frame);
            return was;
        }

        boolean changeKey(int frame, boolean is) {
            boolean was = keys[frame];
            keys[frame] = is;
            forgetCutsFrom(frame);
            return was;
        }

        // A FRAME's CUT leans on the one ahead AS OPENED, so all behind a changed one go with it.
        void forgetCutsFrom(int frame) {
            cutCount = Math.min(cutCount, frame);
        }

        void cutUpTo(int frame, int most) {
            for (int at = cutCount; at <= frame; at++) {
                cutter.cut(this, at, most);
            }
            cutCount = Math.max(cutCount, frame + 1);
        }

        int unlike(int frame) {
            int unlike = 0;
            if (frame > 0) {
                for (int at = frame * DOTS; at < (frame + 1) * DOTS; at++) {
                    unlike += Math.abs(dots[at] - dots[at - DOTS]);
                }
            }
            return unlike;
        }

        boolean isScene(int frame, int scene) {
            return frame > 0 && unlike(frame) >= scene;
        }

        boolean isStill(int frame) {
            return frame > 0 && unlike(frame) == 0;
        }

        int scenes(int scene) {
            int bits = 0;
            for (int frame = 0; frame < count; frame++) {
                if (isScene(frame, scene)) {
                    bits |= 1 << frame;
                }
            }
            return bits;
        }

        int stills() {
            int bits = 0;
            for (int frame = 0; frame < count; frame++) {
                if (isStill(frame)) {
                    bits |= 1 << frame;
                }
            }
            return bits;
        }
    }

    /**
     * Seeks the WAYS of one FRAME. Of WAYS with the same bits only a BLOCK's first with the least LOSS can be
     * in the answer, so that a BLOCK has at most four choices.
     */
    static final class Cutter {
        private static final int AS_IT_WAS = 4, MEAN = 9, OWN = 10, WAYS = 11;
        private static final int CHOICES = 4, CORNERS = 4, MORE_THAN_ANY = 1000000;
        private static final int[] WAY_BITS = {6, 6, 6, 6, 1, 6, 6, 6, 6, 5, 20};
        private static final int[] BLOCK_DOT = {0, 2, 8, 10};
        private static final int[] CORNER_DOT = {0, 1, 4, 5};

        private final int[] losses = new int[Frames.BLOCKS * WAYS];
        private final int[] choiceWays = new int[Frames.BLOCKS * CHOICES];
        private final int[] tried = new int[Frames.BLOCKS];
        private final int[] chosen = new int[Frames.BLOCKS];
        private int choices;
        private int limit;
        private int leastLoss;
        private int leastBits;

        void cut(Frames frames, int frame, int most) {
            boolean key = frames.keys[frame];
            for (int block = 0; block < Frames.BLOCKS; block++) {
                for (int way = key ? MEAN : 0; way < WAYS; way++) {
                    losses[block * WAYS + way] = lossBy(frames, frame, block, way);
                }
                gather(block, key);
            }
            choices = key ? 2 : CHOICES;
            // With the fewest bits as the limit only the WAYS with the fewest bits fit: what CUT asks then.
            limit = Math.max(most, Frames.BLOCKS * (key ? WAY_BITS[MEAN] : WAY_BITS[AS_IT_WAS]));
            leastLoss = MORE_THAN_ANY;
            leastBits = MORE_THAN_ANY;
            tryBlock(0, 0, 0);
            open(frames, frame);
        }

        // The choices stand by their WAYS, so that the first of several equals is the first that is tried.
        private void gather(int block, boolean key) {
            int at = block * CHOICES;
            if (!key) {
                int moved = bestMoved(block);
                choiceWays[at] = Math.min(moved, AS_IT_WAS);
                choiceWays[at + 1] = Math.max(moved, AS_IT_WAS);
                at += 2;
            }
            choiceWays[at] = MEAN;
            choiceWays[at + 1] = OWN;
        }

        private int bestMoved(int block) {
            int best = 0;
            for (int way = 1; way < MEAN; way++) {
                if (way != AS_IT_WAS && losses[block * WAYS + way] < losses[block * WAYS + best]) {
                    best = way;
                }
            }
            return best;
        }

        private static int lossBy(Frames frames, int frame, int block, int way) {
            int loss = 0;
            for (int corner = 0; corner < CORNERS; corner++) {
                int dot = BLOCK_DOT[block] + CORNER_DOT[corner];
                int off = dotBy(frames, frame, block, dot, way) - frames.dots[frame * Frames.DOTS + dot];
                loss += off * off;
            }
            return loss;
        }

        private static int dotBy(Frames frames, int frame, int block, int dot, int way) {
            if (way == MEAN) {
                return mean(frames, frame, block);
            }
            // FRAME 0 is a KEY and has none ahead.
            if (way == OWN || frame == 0) {
                return frames.dots[frame * Frames.DOTS + dot];
            }
            int row = withinRim(dot / 4 + way / 3 - 1);
            int column = withinRim(dot % 4 + way % 3 - 1);
            return frames.openedDots[(frame - 1) * Frames.DOTS + row * 4 + column];
        }

        private static int mean(Frames frames, int frame, int block) {
            int first = frame * Frames.DOTS + BLOCK_DOT[block];
            int all = 0;
            for (int corner = 0; corner < CORNERS; corner++) {
                all += frames.dots[first + CORNER_DOT[corner]];
            }
            return all / CORNERS;
        }

        private static int withinRim(int place) {
            return place < 0 ? 0 : place > 3 ? 3 : place;
        }

        private void tryBlock(int block, int bits, int loss) {
            if (bits > limit || loss > leastLoss) {
                return;
            }
            if (block >= Frames.BLOCKS) {
                weigh(bits, loss);
                return;
            }
            for (int choice = 0; choice < choices; choice++) {
                tryWay(block, choiceWays[block * CHOICES + choice], bits, loss);
            }
        }

        private void tryWay(int block, int way, int bits, int loss) {
            tried[block] = way;
            tryBlock(block + 1, bits + WAY_BITS[way], loss + losses[block * WAYS + way]);
        }

        private void weigh(int bits, int loss) {
            if (loss < leastLoss || loss == leastLoss && bits < leastBits) {
                leastLoss = loss;
                leastBits = bits;
                System.arraycopy(tried, 0, chosen, 0, Frames.BLOCKS);
            }
        }

        private void open(Frames frames, int frame) {
            frames.cutBits[frame] = leastBits;
            frames.cutLoss[frame] = leastLoss;
            for (int block = 0; block < Frames.BLOCKS; block++) {
                frames.ways[frame * Frames.BLOCKS + block] = chosen[block];
                for (int corner = 0; corner < CORNERS; corner++) {
                    int dot = BLOCK_DOT[block] + CORNER_DOT[corner];
                    frames.openedDots[frame * Frames.DOTS + dot] = dotBy(frames, frame, block, dot, chosen[block]);
                }
            }
        }
    }

    /** The PIECES of the film in their SIZES, its DOORS, and the LINE. */
    static final class Film {
        static final int MOST = 8, SIZES = 3, SECONDS = 60;

        final int[] line = new int[SECONDS];
        private final int[] sizeBits = new int[MOST * SIZES];
        int count = MOST;
        int doors = 255;

        Film() {
            for (int second = 0; second < SECONDS; second++) {
                line[second] = 40;
            }
            for (int at = 0; at < MOST * SIZES; at++) {
                sizeBits[at] = 20 << at % SIZES;
            }
        }

        int bitsOf(int piece, int size) {
            return sizeBits[piece * SIZES + size];
        }

        int changeBits(int piece, int size, int v) {
            int was = sizeBits[piece * SIZES + size];
            sizeBits[piece * SIZES + size] = v;
            return was;
        }

        void changeLine(int from, int to, int v) {
            for (int second = from; second <= to; second++) {
                line[second] = v;
            }
        }

        boolean isDoor(int piece) {
            return piece == 0 || (doors >> piece & 1) == 1;
        }
    }

    /** The signs that are said, and THE RULE that was made of such signs. */
    static final class Rule {
        static final int MOST = 40;
        // What may come next in a text; DIGIT_3 and DIGIT_2 may be a ':' as well.
        private static final int CLAUSE = 0, COMPARE = 1, DIGIT_1 = 2, DIGIT_2 = 3, DIGIT_3 = 4, COLON = 5;
        private static final int SIZE = 6, SEMICOLON = 7, END = 8, WRONG = 9;
        // The shortest CLAUSE has 6 signs, so no text holds more.
        private static final int MOST_CLAUSES = MOST / 6;

        private final int[] signs = new int[MOST];
        int count;
        private final int[] facts = new int[MOST_CLAUSES];
        private final boolean[] below = new boolean[MOST_CLAUSES];
        private final int[] numbers = new int[MOST_CLAUSES];
        private final int[] sizes = new int[MOST_CLAUSES];
        private int clauses;
        private int lastSize;

        int addSign(int sign) {
            signs[count] = sign;
            count++;
            return count;
        }

        int dropSigns() {
            int was = count;
            count = 0;
            return was;
        }

        int firstFault() {
            int next = CLAUSE;
            for (int i = 0; i < count; i++) {
                next = after(next, signs[i]);
                if (next == WRONG) {
                    return i;
                }
            }
            return next == END ? NONE : count;
        }

        /** The signs become THE RULE; only where they have no FAULT. */
        void adopt() {
            clauses = 0;
            int next = CLAUSE;
            for (int i = 0; i < count; i++) {
                if (next == CLAUSE && isSize(signs[i])) {
                    lastSize = signs[i] - '0';
                } else if (clauses < MOST_CLAUSES) {
                    takeSign(next, signs[i]);
                }
                next = after(next, signs[i]);
            }
            count = 0;
        }

        private void takeSign(int next, int sign) {
            if (next == CLAUSE) {
                facts[clauses] = sign;
                numbers[clauses] = 0;
            } else if (next == COMPARE) {
                below[clauses] = sign == '<';
            } else if (next == SIZE) {
                sizes[clauses] = sign - '0';
            } else if (next == SEMICOLON) {
                clauses++;
            } else if (isDigit(sign)) {
                numbers[clauses] = numbers[clauses] * 10 + sign - '0';
            }
        }

        int pick(int waiting, int lineAhead, int sizeNow, int piece) {
            for (int i = 0; i < clauses; i++) {
                int fact = piece;
                if (facts[i] == 'b') {
                    fact = waiting;
                } else if (facts[i] == 'l') {
                    fact = lineAhead;
                } else if (facts[i] == 's') {
                    fact = sizeNow;
                }
                if (below[i] ? fact < numbers[i] : fact > numbers[i]) {
                    return sizes[i];
                }
            }
            return lastSize;
        }

        private static int after(int next, int sign) {
            switch (next) {
                case CLAUSE:
                    return isFact(sign) ? COMPARE : isSize(sign) ? END : WRONG;
                case COMPARE:
                    return sign == '<' || sign == '>' ? DIGIT_1 : WRONG;
                case DIGIT_1:
                    return isDigit(sign) ? DIGIT_2 : WRONG;
                case DIGIT_2:
                    return isDigit(sign) ? DIGIT_3 : sign == ':' ? SIZE : WRONG;
                case DIGIT_3:
                    return isDigit(sign) ? COLON : sign == ':' ? SIZE : WRONG;
                case COLON:
                    return sign == ':' ? SIZE : WRONG;
                case SIZE:
                    return isSize(sign) ? SEMICOLON : WRONG;
                case SEMICOLON:
                    return sign == ';' ? CLAUSE : WRONG;
                default:
                    return WRONG;
            }
        }

        private static boolean isFact(int sign) {
            return sign == 'b' || sign == 'l' || sign == 's' || sign == 'k';
        }

        private static boolean isSize(int sign) {
            return sign >= '0' && sign <= '2';
        }

        private static boolean isDigit(int sign) {
            return sign >= '0' && sign <= '9';
        }
    }

    /** What is told of a SHOW, and the SHOW by THE RULE, second by second. */
    static final class Show {
        final int[] sizes = new int[Film.MOST];
        int seenCount;
        int stills;
        int sizeSum;
        int lastSecond;
        private int whole;
        private int missing;

        static boolean tells(int what) {
            return what >= 0 && what <= 3 || what >= 10 && what < 10 + Film.MOST;
        }

        int answer(int what) {
            switch (what) {
                case 0:
                    return seenCount;
                case 1:
                    return stills;
                case 2:
                    return sizeSum;
                case 3:
                    return lastSecond;
                default:
                    return tells(what) ? sizes[what - 10] : OUTSIDE;
            }
        }

        void clear() {
            seenCount = 0;
            stills = 0;
            sizeSum = 0;
            lastSecond = NONE;
            for (int piece = 0; piece < Film.MOST; piece++) {
                sizes[piece] = NONE;
            }
        }

        void run(Film film, Rule rule, int start) {
            clear();
            whole = 0;
            missing = 0;
            int needed = Math.min(start, film.count);
            for (int second = 0; second < Film.SECONDS && seenCount < film.count; second++) {
                load(film, rule, second);
                if (whole >= needed) {
                    watch(film, second);
                }
            }
        }

        private void load(Film film, Rule rule, int second) {
            int come = film.line[second];
            for (int piece = whole; piece < film.count && come > 0; piece++) {
                if (sizes[piece] == NONE) {
                    begin(film, rule, piece, second);
                }
                int taken = Math.min(come, missing);
                come -= taken;
                missing -= taken;
                if (missing == 0) {
                    whole++;
                }
            }
        }

        private void begin(Film film, Rule rule, int piece, int second) {
            int sizeNow = piece > 0 ? sizes[piece - 1] : 0;
            int lineAhead = second > 0 ? film.line[second - 1] : 0;
            int size = film.isDoor(piece) ? rule.pick(whole - seenCount, lineAhead, sizeNow, piece) : sizeNow;
            sizes[piece] = size;
            missing = film.bitsOf(piece, size);
        }

        private void watch(Film film, int second) {
            if (whole <= seenCount) {
                stills++;
                return;
            }
            sizeSum += sizes[seenCount];
            seenCount++;
            // What is told is the second of the film's last PIECE, not of the last one that came to be seen.
            if (seenCount == film.count) {
                lastSecond = second;
            }
        }
    }

    /**
     * Seeks BEST. All bits of the LINE go into PIECES, so a PIECE is whole as soon as the bits that have come
     * reach those of the PIECES up to it; no second need be played. Rows are tried from the last to the first,
     * since great SIZES set a high mark early, by which many rows are left out.
     */
    static final class BestSearch {
        final Show found = new Show();
        private final int[] come = new int[Film.SECONDS];
        private final int[] row = new int[Film.MOST];
        private final int[] wholeAt = new int[Film.MOST];
        private final int[] seenAt = new int[Film.MOST];
        private final int[] sums = new int[Film.MOST];
        private int needed;
        private int rowSeen;
        private int rowStills;
        private int rowSum;
        private int rowLast;

        void seek(Film film, int start) {
            needed = Math.min(start, film.count);
            int all = 0;
            for (int second = 0; second < Film.SECONDS; second++) {
                all += film.line[second];
                come[second] = all;
            }
            found.clear();
            if (all > 0) {
                placeFrom(film, 0, 0, 0);
            }
        }

        private void placeFrom(Film film, int piece, int bitsAhead, int second) {
            if (piece >= film.count) {
                return;
            }
            for (int size = Film.SIZES - 1; size >= 0; size--) {
                if (film.isDoor(piece) || size == row[piece - 1]) {
                    row[piece] = size;
                    place(film, piece, bitsAhead, second);
                }
            }
        }

        private void place(Film film, int piece, int bitsAhead, int second) {
            int bits = bitsAhead + film.bitsOf(piece, row[piece]);
            int at = secondOf(bits, second);
            wholeAt[piece] = at;
            sums[piece] = row[piece] + (piece > 0 ? sums[piece - 1] : 0);
            if (piece + 1 >= needed) {
                seenAt[piece] = piece >= needed ? Math.max(at, seenAt[piece - 1] + 1) : at + piece;
            }
            if (at == Film.SECONDS || bits == come[Film.SECONDS - 1] || piece + 1 == film.count) {
                judge(film, piece + 1);
            } else if (mayBeNoWorse(film, piece)) {
                placeFrom(film, piece + 1, bits, at);
            }
        }

        private int secondOf(int bits, int from) {
            int second = from;
            while (second < Film.SECONDS && come[second] < bits) {
                second++;
            }
            return second;
        }

        // STILL seconds only grow as PIECES are added, and no PIECE adds more than the greatest SIZE.
        private boolean mayBeNoWorse(Film film, int piece) {
            if (found.seenCount < film.count) {
                return true;
            }
            int stills = 0;
            if (piece + 1 >= needed) {
                if (seenAt[piece] >= Film.SECONDS) {
                    return false;
                }
                stills = seenAt[piece] - piece - wholeAt[needed - 1];
            }
            int mostSum = sums[piece] + (film.count - 1 - piece) * (Film.SIZES - 1);
            return stills < found.stills || stills == found.stills && mostSum >= found.sizeSum;
        }

        private void judge(Film film, int begun) {
            rowSeen = 0;
            rowStills = 0;
            rowSum = 0;
            rowLast = NONE;
            int whole = wholeAt[begun - 1] < Film.SECONDS ? begun : begun - 1;
            if (whole >= needed) {
                watch(film, whole);
            }
            if (isNoWorse()) {
                keep(begun);
            }
        }

        private void watch(Film film, int whole) {
            int first = wholeAt[needed - 1];
            int at = first;
            for (int piece = 0; piece < whole && at < Film.SECONDS; piece++) {
                at = Math.max(at, wholeAt[piece]);
                rowSeen++;
                at++;
            }
            rowSum = rowSeen > 0 ? sums[rowSeen - 1] : 0;
            int end = Film.SECONDS;
            if (rowSeen == film.count) {
                end = at;
                rowLast = at - 1;
            }
            rowStills = end - first - rowSeen;
        }

        // Of equals the last one that is tried is the first by its SIZES.
        private boolean isNoWorse() {
            if (rowSeen != found.seenCount) {
                return rowSeen > found.seenCount;
            }
            if (rowStills != found.stills) {
                return rowStills < found.stills;
            }
            return rowSum >= found.sizeSum;
        }

        private void keep(int begun) {
            found.seenCount = rowSeen;
            found.stills = rowStills;
            found.sizeSum = rowSum;
            found.lastSecond = rowLast;
            for (int piece = 0; piece < Film.MOST; piece++) {
                found.sizes[piece] = piece < begun ? row[piece] : NONE;
            }
        }
    }

    /** The TOWNS, WEIGHTS of FILMS, and ASKS. */
    static final class Towns {
        static final int MOST = 4, FILMS = 6;

        private final int[] rooms = {10, 10, 10, 10};
        private final int[] fars = {10, 10, 10, 10};
        private final int[] weights = {5, 5, 5, 5, 5, 5};
        private final int[] asks = new int[MOST * FILMS];

        int changeRoom(int town, int v) {
            int was = rooms[town];
            rooms[town] = v;
            return was;
        }

        int changeFar(int town, int v) {
            int was = fars[town];
            fars[town] = v;
            return was;
        }

        int changeWeight(int film, int v) {
            int was = weights[film];
            weights[film] = v;
            return was;
        }

        int changeAsks(int town, int film, int n) {
            int was = asks[town * FILMS + film];
            asks[town * FILMS + film] = n;
            return was;
        }

        // None at all always fits, and of equals the first one tried is the least as bits.
        int bestFilms(int town) {
            int best = 0;
            int bestWeight = 0;
            int bestCost = costOf(town, 0);
            for (int films = 1; films < 1 << FILMS; films++) {
                int weight = weightOf(films);
                if (weight <= rooms[town]) {
                    int cost = costOf(town, films);
                    if (cost < bestCost || cost == bestCost && weight < bestWeight) {
                        best = films;
                        bestWeight = weight;
                        bestCost = cost;
                    }
                }
            }
            return best;
        }

        private int weightOf(int films) {
            int weight = 0;
            for (int film = 0; film < FILMS; film++) {
                weight += (films >> film & 1) * weights[film];
            }
            return weight;
        }

        int costOf(int town, int films) {
            int others = 0;
            for (int film = 0; film < FILMS; film++) {
                if ((films >> film & 1) == 0) {
                    others += asks[town * FILMS + film];
                }
            }
            return others * fars[town];
        }
    }

    /** The RIGHTS, and what SEERS saw by them. */
    static final class Rights {
        static final int MOST = 12, LANDS = 4, SEERS = 8;

        private final int[] films = new int[MOST];
        private final int[] lands = new int[MOST];
        private final int[] froms = new int[MOST];
        private final int[] tos = new int[MOST];
        private final int[] limits = new int[MOST];
        int count;
        private final int[] seerLands = new int[SEERS];
        private final long[] seconds = new long[SEERS * Towns.FILMS];
        private final int[] times = new int[SEERS * Towns.FILMS];

        int add(int film, int land, int from, int to, int limit) {
            films[count] = film;
            lands[count] = land;
            froms[count] = from;
            tos[count] = to;
            limits[count] = limit;
            count++;
            return count - 1;
        }

        int changeLand(int seer, int land) {
            int was = seerLands[seer];
            seerLands[seer] = land;
            return was;
        }

        boolean allow(int seer, int film, int hour) {
            for (int i = 0; i < count; i++) {
                boolean fits = films[i] == film && lands[i] == seerLands[seer];
                if (fits && hour >= froms[i] && hour <= tos[i] && timesSeen(seer, film) < limits[i]) {
                    return true;
                }
            }
            return false;
        }

        int addSeeing(int seer, int film, int from, int to) {
            int at = seer * Towns.FILMS + film;
            long span = (-1L >>> (63 - (to - from))) << from;
            int fresh = Long.bitCount(span & ~seconds[at]);
            seconds[at] |= span;
            times[at]++;
            return fresh;
        }

        int secondsSeen(int seer, int film) {
            return Long.bitCount(seconds[seer * Towns.FILMS + film]);
        }

        int timesSeen(int seer, int film) {
            return times[seer * Towns.FILMS + film];
        }

        int owedFor(int film, int rate, int free) {
            int paid = 0;
            for (int seer = 0; seer < SEERS; seer++) {
                paid += Math.max(0, secondsSeen(seer, film) - free);
            }
            return paid * rate;
        }
    }

    /** The MARKS of SEERS. */
    static final class Marks {
        private final int[] rows = new int[Rights.SEERS];

        int change(int seer, int bits) {
            int was = rows[seer];
            rows[seer] = bits;
            return was;
        }

        int blamed(int known, int is) {
            int bits = 0;
            for (int seer = 0; seer < Rights.SEERS; seer++) {
                if (unlike(seer, known, is) == 0) {
                    bits |= 1 << seer;
                }
            }
            return bits;
        }

        int pairs(int known, int is) {
            int pairs = 0;
            for (int seer = 0; seer < Rights.SEERS; seer++) {
                for (int other = seer + 1; other < Rights.SEERS; other++) {
                    if (isPair(seer, other, known, is)) {
                        pairs++;
                    }
                }
            }
            return pairs;
        }

        int firstPair(int known, int is) {
            for (int seer = 0; seer < Rights.SEERS; seer++) {
                for (int other = seer + 1; other < Rights.SEERS; other++) {
                    if (isPair(seer, other, known, is)) {
                        return 10 * seer + other;
                    }
                }
            }
            return NONE;
        }

        private boolean isPair(int seer, int other, int known, int is) {
            int one = unlike(seer, known, is);
            int two = unlike(other, known, is);
            return one != 0 && two != 0 && (one & two) == 0;
        }

        private int unlike(int seer, int known, int is) {
            return (rows[seer] ^ is) & known;
        }
    }

    /** The GROUPS and their SUMS. */
    static final class Groups {
        static final int MOST = 4, SIZE = 6;

        private final int[] numbers = new int[MOST * SIZE];

        int change(int group, int i, int v) {
            int was = numbers[group * SIZE + i];
            numbers[group * SIZE + i] = v;
            return was;
        }

        // What the SUMS restore is the number that was put: they are always those of all six.
        int numberAt(int group, int i) {
            return numbers[group * SIZE + i];
        }

        int plainSum(int group) {
            int sum = 0;
            for (int i = 0; i < SIZE; i++) {
                sum += numberAt(group, i);
            }
            return sum;
        }

        int placeSum(int group) {
            int sum = 0;
            for (int i = 0; i < SIZE; i++) {
                sum += numberAt(group, i) * (i + 1);
            }
            return sum;
        }

        /** Whether as many SUMS are left as numbers are lost. */
        static boolean restorable(int lost) {
            int numbersLost = Integer.bitCount(lost & 63);
            int sumsLeft = 2 - Integer.bitCount(lost >> SIZE & 3);
            return numbersLost <= sumsLeft;
        }
    }

    /** The NODES of the tree. Each hangs on one of a lesser number, and a standing one on a standing one. */
    static final class Nodes {
        static final int MOST = 10;

        private final int[] parents = {0, 0, 0, 1, 1, 2, 2, 3, 3, 4};
        private final int[] delays = {0, 10, 10, 10, 10, 10, 10, 10, 10, 10};
        final boolean[] fallen = new boolean[MOST];

        int rehang(int node, int on, int delay) {
            int was = parents[node];
            parents[node] = on;
            delays[node] = delay;
            return was;
        }

        /** How many standing ones, but for one, hang on a NODE. */
        int hangingOn(int on, int but) {
            int hanging = 0;
            for (int node = 1; node < MOST; node++) {
                if (!fallen[node] && parents[node] == on && node != but) {
                    hanging++;
                }
            }
            return hanging;
        }

        int delayUpTo0(int node) {
            int delay = 0;
            int at = node;
            for (int step = 0; step < MOST && at > 0; step++) {
                delay += delays[at];
                at = parents[at];
            }
            return delay;
        }

        int drop(int node, int fan) {
            fallen[node] = true;
            int moved = 0;
            for (int child = node + 1; child < MOST; child++) {
                if (!fallen[child] && parents[child] == node) {
                    parents[child] = newParent(child, fan);
                    moved++;
                }
            }
            return moved;
        }

        // Below the fallen one there are by then only the child, those behind it in number, and what hangs on
        // them: no NODE of a lesser number.
        private int newParent(int child, int fan) {
            int best = NONE;
            for (int node = 0; node < child; node++) {
                if (!fallen[node] && hangingOn(node, child) < fan) {
                    if (best == NONE || delayUpTo0(node) < delayUpTo0(best)) {
                        best = node;
                    }
                }
            }
            return best == NONE ? 0 : best;
        }

        int standing() {
            int bits = 0;
            for (int node = 0; node < MOST; node++) {
                if (!fallen[node]) {
                    bits |= 1 << node;
                }
            }
            return bits;
        }

        int standingWithin(int within) {
            int bits = 0;
            for (int node = 0; node < MOST; node++) {
                if (!fallen[node] && delayUpTo0(node) <= within) {
                    bits |= 1 << node;
                }
            }
            return bits;
        }

        int hangsOn(int node) {
            return node == 0 || fallen[node] ? NONE : parents[node];
        }
    }
}
