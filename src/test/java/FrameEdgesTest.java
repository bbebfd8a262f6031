/** Promises 2 to 8 at their edges: frame, dot, key, set, way, opened, of. */
public final class FrameEdgesTest {
    private static final int UNKNOWN = FilmLines.UNKNOWN, OUTSIDE = FilmLines.OUTSIDE, FULL = FilmLines.FULL, NO = FilmLines.NO;
    private static final String TEN_FRAMES = "frame() ".repeat(10);
    /** FRAME 0 of four even BLOCKS: 3 above, 9 below. */
    private static final String ABOVE_AND_BELOW = "frame() " + even(0, 0, 3) + even(0, 1, 3) + even(0, 2, 9) + even(0, 3, 9);
    /** FRAME 0 of four even BLOCKS: 3 on the left, 9 on the right. */
    private static final String LEFT_AND_RIGHT = "frame() " + even(0, 0, 3) + even(0, 1, 9) + even(0, 2, 3) + even(0, 3, 9);
    private static final Edges EDGES = new Edges();

    public static void main(String[] args) {
        framesAtMost();
        frameIsNew();
        dotEdges();
        dotUnknownFrames();
        keyUnknownFrames();
        keyOfFrame0();
        keyTellsWhatItWas();
        setEdges();
        setUnknownOnes();
        setCounts();
        wayEdges();
        wayOfEachBlock();
        wayBits();
        wayOwnBits();
        wayFewerBitsThanAny();
        wayNoneMovedInAKey();
        wayFewestBitsOfSeveral();
        wayFirstOfSeveral();
        wayFromTheRim();
        wayAsOpened();
        openedEdges();
        openedMeanIsCut();
        openedFollowsChanges();
        ofEdges();
        ofAskedFirst();
        ofUnlike();
        ofScenes();
        ofScenesAtMost();
        ofStills();
        EDGES.end("FrameEdgesTest");
    }

    private static String block(int frame, int block, int... dots) {
        int first = block / 2 * 8 + block % 2 * 2;
        int[] places = {first, first + 1, first + 4, first + 5};
        StringBuilder calls = new StringBuilder();
        for (int i = 0; i < 4; i++) {
            calls.append("dot(").append(frame).append(", ").append(places[i]).append(", ").append(dots[i]).append(") ");
        }
        return calls.toString();
    }

    private static String even(int frame, int block, int v) {
        return block(frame, block, v, v, v, v);
    }

    private static String evenFrame(int frame, int v) {
        return even(frame, 0, v) + even(frame, 1, v) + even(frame, 2, v) + even(frame, 3, v);
    }

    // ---- promise 2

    private static void framesAtMost() {
        EDGES.sentence(2, "1 FRAMES, 10 at most, numbered from 0 on");
        Run run = EDGES.fresh();
        for (int frame = 0; frame < 10; frame++) run.due("told(0)", frame).due("frame()", frame);
        run.still("frame()", FULL).still("told(0)", 10).still("frame()", FULL);
        EDGES.sentence(2, "`int frame()`: A FRAME: its number. FULL.");
        EDGES.full().due("frame()", 3).go("frame() frame() frame() frame() frame()").due("frame()", 9)
            .still("frame()", FULL).still("told(0)", 10);
    }

    private static void frameIsNew() {
        EDGES.sentence(2, "16 DOTS (0 to 15; 0 at first)");
        Run run = EDGES.behind(Edges.STORY + "frame()");
        for (int dot = 0; dot < 16; dot++) run.due("dot(3, " + dot + ", 1)", 0);
        EDGES.sentence(2, "a FRAME is a KEY or not (0 is always one)");
        for (int frame = 1; frame < 10; frame++) EDGES.behind(TEN_FRAMES).due("key(" + frame + ", true)", 0);
        EDGES.behind("frame()").still("way(0, 0)", 9);
    }

    // ---- promise 3

    private static void dotEdges() {
        EDGES.sentence(3, "16 DOTS (0 to 15; 0 at first), 4 in each of 4 rows, numbered row by row");
        EDGES.full().grid(new Grid("dot").known(0, 2).within(0, 15).within(0, 15));
        EDGES.sentence(3, "A DOT: which it was. UNKNOWN; OUTSIDE.");
        EDGES.full().due("dot(2, 15, 15)", 0).due("dot(2, 15, 0)", 15).due("dot(2, 15, 1)", 0)
            .due("dot(0, 0, 15)", 3).due("dot(0, 0, 0)", 15).due("dot(0, 0, 14)", 0).due("dot(0, 1, 3)", 3)
            .due("dot(1, 15, 0)", 0).due("dot(2, 14, 0)", 0).due("dot(2, 15, 1)", 1);
    }

    private static void dotUnknownFrames() {
        EDGES.sentence(3, "UNKNOWN -1 (there is no such FRAME,");
        EDGES.fresh().grid(new Grid("dot").known(0, -1).within(0, 15).within(0, 15));
        EDGES.behind("frame()").grid(new Grid("dot").known(0, 0).within(0, 15).within(0, 15));
        EDGES.behind(TEN_FRAMES).grid(new Grid("dot").known(0, 9).within(0, 15).within(0, 15)).due("dot(9, 15, 15)", 0);
    }

    // ---- promise 4

    private static void keyUnknownFrames() {
        EDGES.sentence(4, "whether it was (1, 0). UNKNOWN; NO: FRAME 0.");
        EDGES.fresh().grid(new Grid("key").known(0, -1).truth());
        EDGES.full().grid(new Grid("key").known(0, 2).truth());
        EDGES.behind(TEN_FRAMES).grid(new Grid("key").known(0, 9).truth()).due("key(9, true)", 0).due("key(9, true)", 1);
    }

    private static void keyOfFrame0() {
        EDGES.sentence(4, "NO: FRAME 0.");
        EDGES.full().still("key(0, true)", NO).still("key(0, false)", NO);
        EDGES.behind("frame()").still("key(0, true)", NO).still("key(0, false)", NO).still("way(0, 0)", 9);
    }

    private static void keyTellsWhatItWas() {
        EDGES.sentence(4, "A FRAME is a KEY, or not: whether it was (1, 0).");
        EDGES.behind("frame() frame() frame()").due("key(1, false)", 0).due("key(1, true)", 0).due("key(1, true)", 1)
            .due("key(1, false)", 1).due("key(1, false)", 0).due("key(2, false)", 0);
    }

    // ---- promise 5

    private static void setEdges() {
        String[] words = {"BITS (0 to 80;", "SCENE (0 to 240;", "START, 1 to 8 PIECES", "RATE (0 to 100;", "FREE (0 to 60;",
            "WITHIN (0 to 1000;", "FAN (1 to 9;"};
        int[] least = {0, 0, 1, 0, 0, 0, 1};
        int[] most = {80, 240, 8, 100, 60, 1000, 9};
        int[] was = {41, 44, 3, 7, 2, 25, 3};
        for (int which = 0; which < 7; which++) {
            EDGES.sentence(5, words[which]);
            String set = "set(" + which + ", ";
            EDGES.full().still(set + (least[which] - 1) + ")", OUTSIDE).still(set + (most[which] + 1) + ")", OUTSIDE)
                .still(set + Integer.MIN_VALUE + ")", OUTSIDE).still(set + Integer.MAX_VALUE + ")", OUTSIDE)
                .due(set + least[which] + ")", was[which]).due(set + most[which] + ")", least[which])
                .due(set + least[which] + ")", most[which]);
        }
    }

    private static void setUnknownOnes() {
        EDGES.sentence(5, "0 BITS, 1 SCENE, 2 START, 3 RATE, 4 FREE, 5 WITHIN, 6 FAN: which it was. OUTSIDE.");
        EDGES.full().still("set(-1, 1)", OUTSIDE).still("set(7, 1)", OUTSIDE).still("set(-1, -1)", OUTSIDE)
            .still("set(7, 1001)", OUTSIDE).still("set(-2147483648, 1)", OUTSIDE).still("set(2147483647, 1)", OUTSIDE);
    }

    /** That each of the seven is the one that counts where the document says so. */
    private static void setCounts() {
        EDGES.sentence(5, "0 BITS, 1 SCENE, 2 START, 3 RATE, 4 FREE, 5 WITHIN, 6 FAN: which it was.");
        EDGES.behind("frame() dot(0, 0, 15)").due("of(0, 0)", 20).go("set(0, 35)").due("of(0, 0)", 35);
        EDGES.behind("frame() frame() dot(1, 0, 15)").due("told(1)", 0).go("set(1, 15)").due("told(1)", 2);
        EDGES.behind("line(0, 59, 20)").due("show(3)", 8).due("best(3)", 14).go("set(2, 1)").due("show(3)", 7).due("best(3)", 10);
        Run seen = EDGES.behind("right(0, 0, 0, 0, 1) see(0, 0, 0, 0, 9)").due("owed(0)", 15);
        seen.go("set(3, 4)").due("owed(0)", 20).go("set(4, 9)").due("owed(0)", 4);
        EDGES.behind("set(5, 20)").due("tree(1)", 127);
        EDGES.fresh().due("hang(9, 0, 1)", FULL).go("set(6, 3)").due("hang(9, 0, 1)", 4);
    }

    // ---- promise 6

    private static void wayEdges() {
        EDGES.sentence(6, "By CUT: the WAY of a BLOCK. UNKNOWN.");
        EDGES.full().grid(new Grid("way").known(0, 2).known(0, 3));
        EDGES.fresh().grid(new Grid("way").known(0, -1).known(0, 3));
        EDGES.behind(TEN_FRAMES).grid(new Grid("way").known(0, 9).known(0, 3)).still("way(9, 3)", 4).still("way(0, 0)", 9);
        EDGES.full().still("way(0, 3)", 10).still("way(0, 0)", 9).still("way(2, 3)", 9);
    }

    private static void wayOfEachBlock() {
        EDGES.sentence(6, "BLOCKS 0 to 3 of a FRAME: 2 by 2 DOTS: left above, right above, left below, right below.");
        int[] blockOf = {0, 0, 1, 1, 0, 0, 1, 1, 2, 2, 3, 3, 2, 2, 3, 3};
        for (int dot = 0; dot < 16; dot++) {
            int[] ways = {9, 9, 9, 9, 35, 0};
            ways[blockOf[dot]] = 10;
            EDGES.behind("frame() dot(0, " + dot + ", 15) set(0, 35)").cut(0, ways).due("opened(0, " + dot + ")", 15);
            // 15 by 4, cut, for all DOTS of its BLOCK, and 0 for others.
            Run mean = EDGES.behind("frame() dot(0, " + dot + ", 15) set(0, 34)").cut(0, 9, 9, 9, 9, 20, 3 * 9 + 144);
            for (int other = 0; other < 16; other++) mean.due("opened(0, " + other + ")", blockOf[other] == blockOf[dot] ? 3 : 0);
        }
    }

    private static void wayBits() {
        EDGES.sentence(6, "(4: as it was: 1 bit; others: 6 bits; not in a KEY)");
        // BLOCK 0 of FRAME 1 has a column of 3 and one of 9: one DOT to the right, in any row.
        Run moved = EDGES.behind(LEFT_AND_RIGHT + "frame() " + block(1, 0, 3, 9, 3, 9) + even(1, 1, 9) + even(1, 2, 3) + even(1, 3, 9));
        moved.go("set(0, 9)").cut(1, 2, 4, 4, 4, 9, 0);
        moved.go("set(0, 8)").cut(1, 9, 4, 4, 4, 8, 36);
        moved.go("set(0, 7)").cut(1, 4, 4, 4, 4, 4, 72);
        EDGES.sentence(6, "9 MEAN: all the mean of its four, cut (5 bits)");
        Run mean = EDGES.behind("frame() frame() " + even(1, 3, 7));
        mean.go("set(0, 8)").cut(1, 4, 4, 4, 9, 8, 0);
        mean.go("set(0, 7)").cut(1, 4, 4, 4, 4, 4, 196);
    }

    private static void wayOwnBits() {
        EDGES.sentence(6, "10 OWN: its DOTS as they are (20 bits)");
        Run own = EDGES.behind("frame() frame() " + block(1, 3, 0, 15, 15, 0));
        own.go("set(0, 23)").cut(1, 4, 4, 4, 10, 23, 0);
        own.go("set(0, 22)").cut(1, 4, 4, 4, 9, 8, 226);
        EDGES.sentence(6, "whose bits together are no more, with the least LOSS");
        Run all = EDGES.behind("frame() " + block(0, 0, 0, 15, 15, 0) + block(0, 1, 0, 15, 15, 0) + block(0, 2, 0, 15, 15, 0)
            + block(0, 3, 0, 15, 15, 0));
        all.go("set(0, 80)").cut(0, 10, 10, 10, 10, 80, 0);
        all.go("set(0, 79)").cut(0, 9, 10, 10, 10, 65, 226);
        all.go("set(0, 65)").cut(0, 9, 10, 10, 10, 65, 226);
        all.go("set(0, 64)").cut(0, 9, 9, 10, 10, 50, 452);
        all.go("set(0, 50)").cut(0, 9, 9, 10, 10, 50, 452);
        all.go("set(0, 49)").cut(0, 9, 9, 9, 10, 35, 678);
        all.go("set(0, 35)").cut(0, 9, 9, 9, 10, 35, 678);
        all.go("set(0, 34)").cut(0, 9, 9, 9, 9, 20, 904);
        all.go("set(0, 20)").cut(0, 9, 9, 9, 9, 20, 904);
    }

    private static void wayFewerBitsThanAny() {
        EDGES.sentence(6, "If there are none (fewer bits than any): the one with the fewest bits (then LOSS, then WAYS).");
        Run run = EDGES.behind("frame() " + block(0, 0, 0, 15, 15, 0) + "frame() " + even(1, 1, 15) + "frame() key(2, true) " + even(2, 3, 6));
        for (int bits : new int[] {19, 5, 1, 0}) run.go("set(0, " + bits + ")").cut(0, 9, 9, 9, 9, 20, 226).cut(2, 9, 9, 9, 9, 20, 0);
        for (int bits : new int[] {4, 3, 1, 0}) {
            run.go("set(0, " + bits + ")").cut(1, 4, 4, 4, 4, 4, 4 * 49 + 4 * 225).due("opened(1, 0)", 7).due("opened(1, 2)", 0);
        }
    }

    private static void wayNoneMovedInAKey() {
        EDGES.sentence(6, "not in a KEY)");
        Run run = EDGES.behind("frame() frame() set(0, 80) " + block(0, 0, 1, 2, 3, 4) + block(1, 0, 1, 2, 3, 4));
        run.cut(1, 4, 4, 4, 4, 4, 0).go("key(1, true)").cut(1, 10, 9, 9, 9, 35, 0).go("key(1, false)").cut(1, 4, 4, 4, 4, 4, 0);
        run.cut(0, 10, 9, 9, 9, 35, 0).still("key(0, false)", NO).cut(0, 10, 9, 9, 9, 35, 0);
    }

    private static void wayFewestBitsOfSeveral() {
        EDGES.sentence(6, "of several the fewest bits, then the first by WAYS of BLOCKS 0 to 3.");
        Run run = EDGES.behind("frame() frame() frame() set(0, 80) " + evenFrame(2, 5));
        run.cut(0, 9, 9, 9, 9, 20, 0).cut(1, 4, 4, 4, 4, 4, 0).cut(2, 9, 9, 9, 9, 20, 0);
    }

    private static void wayFirstOfSeveral() {
        EDGES.sentence(6, "then the first by WAYS of BLOCKS 0 to 3.");
        String below = "frame() " + even(1, 0, 3) + even(1, 1, 3) + block(1, 2, 3, 3, 9, 9) + block(1, 3, 3, 3, 9, 9);
        EDGES.behind(ABOVE_AND_BELOW + below + "set(0, 9)").cut(1, 4, 4, 0, 4, 9, 72);
        EDGES.behind(ABOVE_AND_BELOW + below + "set(0, 14)").cut(1, 4, 4, 0, 0, 14, 0);
        String above = "frame() " + block(1, 0, 3, 3, 9, 9) + block(1, 1, 3, 3, 9, 9) + even(1, 2, 9) + even(1, 3, 9);
        EDGES.behind(ABOVE_AND_BELOW + above + "set(0, 9)").cut(1, 4, 6, 4, 4, 9, 72);
        EDGES.behind(ABOVE_AND_BELOW + above + "set(0, 14)").cut(1, 6, 6, 4, 4, 14, 0);
        EDGES.behind("frame() frame() " + even(1, 0, 7) + even(1, 2, 7) + "set(0, 8)").cut(1, 4, 4, 9, 4, 8, 196);
    }

    /** For each way to move: a BLOCK whose DOTS come from beyond the rim, and one on the other side. */
    private static void wayFromTheRim() {
        EDGES.sentence(6, "what lies without taken from the rim");
        for (int way = 0; way < 9; way++) {
            StringBuilder story = new StringBuilder("set(0, 80) frame() frame() ");
            for (int dot = 0; dot < 16; dot++) {
                int row = Math.max(0, Math.min(3, dot / 4 + way / 3 - 1)), column = Math.max(0, Math.min(3, dot % 4 + way % 3 - 1));
                story.append("dot(0, " + dot + ", " + dot + ") dot(1, " + dot + ", " + (row * 4 + column) + ") ");
            }
            // Moved over a corner a BLOCK is all one shade: MEAN tells that with fewer bits.
            int[] want = {way, way, way, way, way == 4 ? 4 : way % 2 == 0 ? 23 : 24, 0};
            if (way % 2 == 0 && way != 4) want[way / 6 * 2 + way % 6 / 2] = 9;
            EDGES.behind(story.toString()).cut(1, want);
        }
    }

    private static void wayAsOpened() {
        EDGES.sentence(6, "DOTS as those of the FRAME ahead AS OPENED");
        Run run = EDGES.behind("frame() frame() " + block(0, 0, 0, 15, 15, 0) + block(1, 0, 0, 15, 15, 0));
        run.cut(0, 9, 9, 9, 9, 20, 226).cut(1, 10, 4, 4, 4, 23, 0).due("of(1, 4)", 1);
        EDGES.behind("frame() frame() " + block(0, 0, 0, 15, 15, 0) + even(1, 0, 7)).cut(1, 4, 4, 4, 4, 4, 0);
    }

    // ---- promise 7

    private static void openedEdges() {
        EDGES.sentence(7, "A DOT AS OPENED. UNKNOWN; OUTSIDE.");
        EDGES.full().grid(new Grid("opened").known(0, 2).within(0, 15));
        EDGES.fresh().grid(new Grid("opened").known(0, -1).within(0, 15));
        EDGES.behind(TEN_FRAMES + even(9, 3, 11)).grid(new Grid("opened").known(0, 9).within(0, 15))
            .still("opened(9, 15)", 11).still("opened(9, 0)", 0).still("opened(8, 15)", 0);
    }

    private static void openedMeanIsCut() {
        EDGES.sentence(7, "Quotients are cut.");
        Run run = EDGES.behind("frame() " + block(0, 0, 0, 0, 0, 3) + block(0, 1, 1, 1, 1, 1) + block(0, 2, 15, 15, 15, 14) + block(0, 3, 0, 0, 7, 0));
        int[] want = {0, 0, 1, 1, 0, 0, 1, 1, 14, 14, 1, 1, 14, 14, 1, 1};
        for (int dot = 0; dot < 16; dot++) run.due("opened(0, " + dot + ")", want[dot]);
        run.cut(0, 9, 9, 9, 9, 20, 9 + 3 + 1 + 1 + 36 + 1);
    }

    private static void openedFollowsChanges() {
        EDGES.sentence(7, "CUT: FRAME by FRAME from 0 on with BITS (0 to 80; 30 at first) for each");
        Run run = EDGES.behind(TEN_FRAMES + evenFrame(0, 4)).due("opened(0, 0)", 4).due("opened(1, 0)", 0);
        run.go("set(0, 0)").due("opened(9, 0)", 4).due("opened(9, 15)", 4);
        run.go("dot(0, 15, 0)").due("opened(9, 15)", 3).due("opened(0, 15)", 3).due("of(9, 1)", 12 * 16 + 4 * 9);
        run.go("key(5, true)").due("opened(9, 15)", 0).due("opened(4, 15)", 3);
        run.go("dot(5, 15, 8)").due("opened(9, 15)", 2).go("key(5, false)").due("opened(9, 15)", 3);
        run.go("set(0, 80)").due("opened(9, 15)", 0).due("opened(5, 15)", 8).due("opened(4, 15)", 0);
    }

    // ---- promise 8

    private static void ofEdges() {
        EDGES.sentence(8, "0 bits, 1 LOSS, 2 UNLIKE (0 of FRAME 0), 3 whether a SCENE, 4 whether a STILL. UNKNOWN; OUTSIDE.");
        EDGES.full().grid(new Grid("of").known(0, 2).within(0, 4));
        EDGES.fresh().grid(new Grid("of").known(0, -1).within(0, 4));
        EDGES.behind(TEN_FRAMES).grid(new Grid("of").known(0, 9).within(0, 4)).still("of(9, 0)", 4).still("of(9, 1)", 0)
            .still("of(9, 2)", 0).still("of(9, 3)", 0).still("of(9, 4)", 1);
    }

    /** Each answer by CUT is due as well where nothing else was asked ahead of it, and behind each change. */
    private static void ofAskedFirst() {
        EDGES.sentence(8, "Of a FRAME by CUT: 0 bits, 1 LOSS");
        askedFirst("", 35, 0, 4, 0);
        askedFirst("of(1, 0) set(0, 34)", 20, 226, 23, 0);
        askedFirst("of(1, 1) dot(0, 3, 2)", 35, 4, 4, 0);
        askedFirst("of(1, 0) dot(1, 3, 2)", 35, 0, 23, 0);
        askedFirst("of(1, 1) key(1, true)", 35, 0, 35, 0);
    }

    private static void askedFirst(String change, int bits, int loss, int bitsOf1, int lossOf1) {
        String story = "frame() frame() " + block(0, 0, 0, 15, 15, 0) + block(1, 0, 0, 15, 15, 0) + "set(0, 35) " + change;
        EDGES.behind(story).due("of(0, 0)", bits);
        EDGES.behind(story).due("of(0, 1)", loss);
        EDGES.behind(story).due("of(1, 0)", bitsOf1);
        EDGES.behind(story).due("of(1, 1)", lossOf1);
    }

    private static void ofUnlike() {
        EDGES.sentence(8, "2 UNLIKE (0 of FRAME 0)");
        Run run = EDGES.behind("frame() frame() frame() " + evenFrame(0, 15) + evenFrame(2, 15));
        run.still("of(0, 2)", 0).still("of(1, 2)", 240).still("of(2, 2)", 240);
        run.go("dot(2, 7, 14) dot(1, 7, 1) dot(1, 0, 1)").due("of(1, 2)", 238).due("of(2, 2)", 237);
        EDGES.sentence(8, "UNLIKE: sum of sizes of differences of DOTS to the FRAME ahead.");
        EDGES.behind("set(0, 0) frame() frame() dot(0, 0, 9) dot(1, 0, 4) dot(1, 1, 5)").still("of(1, 2)", 10);
    }

    private static void ofScenes() {
        EDGES.sentence(8, "SCENES: FRAMES but 0 of which that is SCENE (0 to 240; 60 at first) or more.");
        String frames = "frame() frame() frame() " + evenFrame(1, 3) + "dot(1, 0, 15) ";
        Run run = EDGES.behind(frames).still("of(1, 2)", 60).still("of(1, 3)", 1).still("of(2, 3)", 1).still("told(1)", 6);
        run.go("set(1, 61)").still("of(1, 3)", 0).still("told(1)", 0).go("set(1, 60)").still("of(1, 3)", 1);
        run.go("dot(1, 0, 14)").still("of(1, 2)", 59).still("of(1, 3)", 0).still("told(1)", 0);
        EDGES.behind("frame() frame() frame() set(1, 0)").still("of(0, 3)", 0).still("of(1, 3)", 1).still("told(1)", 6);
        EDGES.behind("frame() frame() frame() set(1, 1)").still("of(1, 3)", 0).still("told(1)", 0);
    }

    private static void ofScenesAtMost() {
        EDGES.sentence(8, "SCENE (0 to 240; 60 at first) or more.");
        Run run = EDGES.behind("frame() frame() set(1, 240) " + evenFrame(1, 15)).still("of(1, 3)", 1).still("told(1)", 2);
        run.go("dot(0, 0, 1)").still("of(1, 2)", 239).still("of(1, 3)", 0).still("told(1)", 0);
        EDGES.behind(TEN_FRAMES + "set(1, 0)").still("told(1)", 1022).still("of(9, 3)", 1).still("of(0, 3)", 0);
    }

    private static void ofStills() {
        EDGES.sentence(8, "STILLS: of which it is 0.");
        EDGES.behind("frame()").still("of(0, 4)", 0).still("told(2)", 0);
        Run run = EDGES.behind("frame() frame() frame()").still("of(0, 4)", 0).still("of(1, 4)", 1).still("told(2)", 6);
        run.go("dot(1, 15, 1)").still("of(1, 4)", 0).still("of(2, 4)", 0).still("told(2)", 0);
        run.go("dot(2, 15, 1)").still("of(2, 4)", 1).still("told(2)", 4);
        run.go("dot(2, 14, 1) dot(2, 15, 0)").still("of(2, 2)", 2).still("of(2, 4)", 0);
        EDGES.behind(TEN_FRAMES).still("told(2)", 1022);
    }
}
