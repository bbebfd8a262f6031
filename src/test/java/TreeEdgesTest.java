/** Promises 34 to 38 at their edges: hang, behind, fall, tree, told. */
public final class TreeEdgesTest {
    private static final int UNKNOWN = FilmLines.UNKNOWN, OUTSIDE = FilmLines.OUTSIDE, STATE = FilmLines.STATE, FULL = FilmLines.FULL;
    private static final int NO = FilmLines.NO, NONE = FilmLines.NONE;
    /** All NODES in one row, 100 behind one another. */
    private static final String CHAIN = "set(6, 9) hang(2, 1, 100) hang(3, 2, 100) hang(4, 3, 100) hang(5, 4, 100) hang(6, 5, 100) "
        + "hang(7, 6, 100) hang(8, 7, 100) hang(9, 8, 100) hang(1, 0, 100) ";
    private static final Edges EDGES = new Edges();

    public static void main(String[] args) {
        hangEdges();
        hangTellsWhereItHung();
        hangFallen();
        hangFull();
        hangFullOfOthers();
        hangNotLess();
        hangOrder();
        behindEdges();
        behindAtMost();
        fallEdges();
        fallHowMany();
        fallByNumbers();
        fallLeastBehind();
        fallFewerThanFan();
        fallLesserNumber();
        fallNotBelow();
        fallOnNode0();
        fallDelayStays();
        treeEdges();
        treeWithin();
        treeHangs();
        toldEdges();
        toldAtMost();
        EDGES.end("TreeEdgesTest");
    }

    /** On which NODES 1 to 9 hang. */
    private static void hung(Run run, int... wants) {
        for (int i = 0; i < 9; i++) run.due("tree(" + (11 + i) + ")", wants[i]);
    }

    private static String all(String name, int from, int to, String more) {
        StringBuilder calls = new StringBuilder();
        for (int node = from; node <= to; node++) calls.append(name + "(" + node + more + ") ");
        return calls.toString();
    }

    // ---- promise 34

    private static void hangEdges() {
        EDGES.sentence(34, "UNKNOWN; OUTSIDE: the delay;");
        EDGES.full().grid(new Grid("hang").known(0, 9).known(0, 9).within(1, 100));
        EDGES.fresh().grid(new Grid("hang").known(0, 9).known(0, 9).within(1, 100));
    }

    private static void hangTellsWhereItHung() {
        EDGES.sentence(34, "A NODE hangs on another one with a delay: the one it hung on.");
        EDGES.fresh().due("hang(9, 8, 1)", 4).due("behind(9)", 31).due("hang(9, 8, 100)", 8).due("behind(9)", 130).due("hang(9, 5, 7)", 8).due("tree(19)", 5);
        EDGES.fresh().due("hang(1, 0, 100)", 0).due("behind(9)", 120).due("hang(1, 0, 1)", 0).due("behind(9)", 21);
    }

    private static void hangFallen() {
        EDGES.sentence(34, "STATE: one is fallen;");
        EDGES.behind("fall(4)").still("hang(4, 0, 1)", STATE).still("hang(5, 4, 1)", STATE).still("hang(4, 4, 1)", STATE).still("hang(3, 4, 1)", STATE)
            .still("hang(4, 3, 100)", STATE).still("hang(4, 0, 0)", OUTSIDE).still("hang(5, 4, 101)", OUTSIDE).still("hang(4, 10, 1)", UNKNOWN);
        EDGES.behind("fall(9)").still("hang(9, 0, 1)", STATE).still("hang(0, 9, 1)", STATE).still("hang(9, 9, 1)", STATE);
    }

    private static void hangFull() {
        EDGES.sentence(34, "FAN (1 to 9; 2 at first): how many may hang on one.");
        for (int fan = 2; fan <= 8; fan++) {
            // FAN of them hang on NODE 0 already, then one place is made.
            Run run = EDGES.behind("set(6, 9) " + all("hang", 1, fan, ", 0, 10") + "set(6, " + fan + ")");
            run.still("hang(9, 0, 1)", FULL).go("set(6, " + (fan + 1) + ")").due("hang(9, 0, 1)", 4);
        }
        Run nine = EDGES.behind("set(6, 9) " + all("hang", 1, 8, ", 0, 10")).due("hang(9, 0, 1)", 4).due("hang(9, 0, 2)", 0);
        hung(nine, 0, 0, 0, 0, 0, 0, 0, 0, 0);
        EDGES.behind("set(6, 1)").still("hang(2, 1, 1)", FULL).still("hang(9, 0, 1)", FULL).due("hang(9, 8, 1)", 4).still("hang(9, 7, 0)", OUTSIDE)
            .due("hang(8, 7, 1)", 3).due("hang(9, 8, 1)", 8).still("hang(9, 7, 1)", FULL);
    }

    private static void hangFullOfOthers() {
        EDGES.sentence(34, "FULL: FAN standing others hang there;");
        // It hangs there itself: the others are one fewer than FAN.
        EDGES.fresh().due("hang(8, 3, 50)", 3).due("hang(7, 3, 50)", 3).still("hang(9, 3, 50)", FULL);
        EDGES.behind("fall(8)").due("hang(9, 3, 50)", 4).still("hang(6, 3, 50)", FULL);
        EDGES.behind("fall(7) fall(8)").due("hang(9, 3, 1)", 4).due("hang(6, 3, 1)", 2).still("hang(5, 3, 1)", FULL);
        // More hang on NODE 0 than FAN by now: one of them may still not be hung there anew.
        EDGES.behind("set(6, 1)").still("hang(1, 0, 5)", FULL).still("hang(2, 0, 5)", FULL);
    }

    private static void hangNotLess() {
        EDGES.sentence(34, "NO: the other one's number is not less (ahead of FULL).");
        Run run = EDGES.fresh();
        for (int node = 0; node < 10; node++) {
            run.still("hang(" + node + ", " + node + ", 1)", NO);
            if (node < 9) run.still("hang(" + node + ", " + (node + 1) + ", 1)", NO);
        }
        run.still("hang(0, 9, 1)", NO).still("hang(1, 3, 100)", NO);
        EDGES.sentence(34, "others hang on a NODE ahead in number");
        EDGES.behind("set(6, 9)").due("hang(9, 8, 1)", 4).due("hang(2, 1, 1)", 0).due("hang(1, 0, 1)", 0);
    }

    private static void hangOrder() {
        EDGES.sentence(34, "Calls that are refused answer, the first of these that fits");
        EDGES.behind("fall(3) set(6, 1)").still("hang(10, 3, 0)", UNKNOWN).still("hang(3, -1, 101)", UNKNOWN).still("hang(3, 3, 0)", OUTSIDE)
            .still("hang(3, 3, 1)", STATE).still("hang(2, 3, 1)", STATE).still("hang(3, 0, 1)", STATE).still("hang(1, 2, 1)", NO).still("hang(2, 2, 1)", NO)
            .still("hang(9, 2, 1)", FULL).still("hang(9, 0, 101)", OUTSIDE).still("hang(2, 0, 0)", OUTSIDE);
    }

    // ---- promise 35

    private static void behindEdges() {
        EDGES.sentence(35, "BEHIND. UNKNOWN; STATE: it is fallen.");
        EDGES.full().grid(new Grid("behind").known(0, 9));
        EDGES.full().still("behind(1)", STATE).still("behind(7)", STATE).still("behind(0)", 0).still("behind(2)", 1).still("behind(9)", 111);
        Run run = EDGES.behind("fall(9) fall(8)").still("behind(9)", STATE).still("behind(8)", STATE).still("behind(7)", 30);
        run.still("behind(10)", UNKNOWN).still("behind(-1)", UNKNOWN);
    }

    private static void behindAtMost() {
        EDGES.sentence(35, "BEHIND of a NODE: the delays up to 0.");
        Run run = EDGES.behind(CHAIN);
        for (int node = 0; node < 10; node++) run.due("behind(" + node + ")", 100 * node);
        Run flat = EDGES.behind("set(6, 9) " + all("hang", 1, 9, ", 0, 1")).due("behind(0)", 0);
        for (int node = 1; node < 10; node++) flat.due("behind(" + node + ")", 1);
    }

    // ---- promise 36

    private static void fallEdges() {
        EDGES.sentence(36, "UNKNOWN; STATE: it is; NO: NODE 0.");
        EDGES.full().grid(new Grid("fall").known(0, 9)).still("fall(1)", STATE).still("fall(7)", STATE).still("fall(0)", NO);
        EDGES.fresh().still("fall(0)", NO).still("fall(10)", UNKNOWN).still("fall(-1)", UNKNOWN).due("fall(9)", 0).still("fall(9)", STATE).still("tree(0)", 511);
        Run last = EDGES.behind(all("fall", 1, 9, "")).still("tree(0)", 1).still("fall(0)", NO);
        for (int node = 1; node < 10; node++) last.still("fall(" + node + ")", STATE);
    }

    private static void fallHowMany() {
        EDGES.sentence(36, "A NODE falls: how many are hung anew.");
        int[] below = {2, 2, 2, 1, 0, 0, 0, 0, 0};
        for (int node = 1; node < 10; node++) EDGES.fresh().due("fall(" + node + ")", below[node - 1]);
        EDGES.behind("set(6, 9) " + all("hang", 2, 9, ", 1, 10")).due("fall(1)", 8);
        EDGES.sentence(36, "each standing one that hangs on it");
        Run fallen = EDGES.behind("fall(7)").due("fall(3)", 1).due("tree(17)", NONE);
        hung(fallen, 0, 0, NONE, 1, 2, 2, NONE, 1, 4);
        EDGES.behind("fall(7) fall(8)").due("fall(3)", 0);
    }

    private static void fallByNumbers() {
        EDGES.sentence(36, "each standing one that hangs on it, by numbers, is hung on");
        Run run = EDGES.behind("hang(7, 3, 99) hang(8, 3, 1)").due("fall(3)", 2);
        hung(run, 0, 0, NONE, 1, 2, 2, 1, 4, 4);
        // The places that are left go to the lesser numbers first.
        Run one = EDGES.behind("set(6, 3)").due("fall(1)", 2);
        hung(one, NONE, 0, 0, 0, 2, 2, 3, 3, 4);
        Run two = EDGES.fresh().due("fall(1)", 2);
        hung(two, NONE, 0, 0, 0, 2, 2, 3, 3, 4);
    }

    private static void fallLeastBehind() {
        EDGES.sentence(36, "and which is least BEHIND, the first such");
        Run equal = EDGES.behind("set(6, 9) hang(9, 8, 10) set(6, 2)").due("fall(8)", 1);
        hung(equal, 0, 0, 1, 1, 2, 2, 3, NONE, 3);
        Run less = EDGES.behind("set(6, 9) hang(9, 8, 10) set(6, 2) hang(6, 2, 9)").due("fall(8)", 1);
        hung(less, 0, 0, 1, 1, 2, 2, 3, NONE, 6);
        Run one = EDGES.behind("set(6, 9) hang(9, 8, 10) set(6, 2) hang(6, 2, 10)").due("fall(8)", 1);
        hung(one, 0, 0, 1, 1, 2, 2, 3, NONE, 3);
        Run more = EDGES.behind("hang(3, 1, 11) set(6, 9) hang(9, 8, 10) set(6, 2)").due("fall(8)", 1);
        hung(more, 0, 0, 1, 1, 2, 2, 3, NONE, 4);
    }

    private static void fallFewerThanFan() {
        EDGES.sentence(36, "on which fewer than FAN standing ones hang then");
        Run full = EDGES.behind("set(6, 9) hang(9, 8, 10) set(6, 3)").due("fall(8)", 1);
        hung(full, 0, 0, 1, 1, 2, 2, 3, NONE, 0);
        Run two = EDGES.behind("set(6, 9) hang(9, 8, 10) set(6, 2)").due("fall(8)", 1);
        hung(two, 0, 0, 1, 1, 2, 2, 3, NONE, 3);
        Run fallen = EDGES.behind("set(6, 9) hang(9, 8, 10) set(6, 2) fall(2)").due("fall(8)", 1);
        hung(fallen, 0, NONE, 1, 1, 0, 5, 3, NONE, 5);
        // What has fallen takes no place.
        Run free = EDGES.behind("fall(6) fall(5) fall(2)").due("fall(4)", 1);
        hung(free, 0, NONE, 1, NONE, NONE, NONE, 3, 3, 0);
    }

    private static void fallLesserNumber() {
        EDGES.sentence(36, "is hung on that standing NODE of a lesser number than its own");
        Run run = EDGES.behind("set(6, 9) hang(9, 0, 1) hang(8, 0, 1) set(6, 1)").due("fall(2)", 2);
        hung(run, 0, NONE, 1, 1, 4, 5, 3, 0, 0);
        Run two = EDGES.behind("set(6, 1)").due("fall(1)", 2);
        hung(two, NONE, 0, 0, 0, 2, 2, 3, 3, 4);
    }

    private static void fallNotBelow() {
        EDGES.sentence(36, "not below the fallen one");
        // What is hung anew by then is not below it any more: each takes the next one.
        Run run = EDGES.behind("set(6, 9) " + all("hang", 2, 9, ", 1, 5") + "set(6, 1)").due("fall(1)", 8);
        hung(run, NONE, 0, 2, 3, 4, 5, 6, 7, 8);
        run.due("behind(9)", 40);
        Run chain = EDGES.behind(CHAIN + "set(6, 1)").due("fall(4)", 1);
        hung(chain, 0, 1, 2, NONE, 3, 5, 6, 7, 8);
    }

    private static void fallOnNode0() {
        EDGES.sentence(36, "(NODE 0, if there is none)");
        Run run = EDGES.behind("set(6, 1)").due("fall(2)", 2);
        hung(run, 0, NONE, 1, 1, 0, 5, 3, 3, 4);
        Run first = EDGES.behind("set(6, 9) hang(2, 1, 10) hang(3, 0, 10) hang(4, 0, 10) set(6, 1)").due("fall(1)", 1);
        hung(first, NONE, 0, 0, 0, 2, 2, 3, 3, 4);
    }

    private static void fallDelayStays() {
        EDGES.sentence(36, "its own delay stays.");
        EDGES.behind("hang(9, 4, 100) hang(4, 1, 1)").due("behind(9)", 111).due("fall(4)", 1).due("tree(19)", 1).due("behind(9)", 110);
        EDGES.behind(CHAIN).due("fall(8)", 1).due("tree(19)", 0).due("behind(9)", 100).due("fall(1)", 1).due("tree(12)", 0).due("behind(7)", 600);
    }

    // ---- promise 37

    private static void treeEdges() {
        EDGES.sentence(37, "or on which NODE a NODE hangs (10 to 19; NONE: 0, a fallen one). OUTSIDE.");
        for (String calls : new String[] {"", Edges.STORY}) {
            Run run = EDGES.behind(calls);
            for (int what : new int[] {Integer.MIN_VALUE, -1, 2, 3, 9, 20, 21, Integer.MAX_VALUE}) run.still("tree(" + what + ")", OUTSIDE);
        }
        EDGES.full().still("tree(0)", 893).still("tree(1)", 381).still("tree(10)", NONE).still("tree(11)", NONE).still("tree(17)", NONE).still("tree(19)", 5);
    }

    private static void treeWithin() {
        EDGES.sentence(37, "WITHIN (0 to 1000; 30 at first): NODES that stand and are no more BEHIND.");
        Run run = EDGES.fresh().due("tree(1)", 1023).go("set(5, 29)").due("tree(1)", 127).go("set(5, 20)").due("tree(1)", 127).go("set(5, 19)").due("tree(1)", 7);
        run.go("set(5, 10)").due("tree(1)", 7).go("set(5, 9)").due("tree(1)", 1).go("set(5, 0)").due("tree(1)", 1);
        Run chain = EDGES.behind(CHAIN + "set(5, 900)").due("tree(1)", 1023).go("set(5, 899)").due("tree(1)", 511).go("set(5, 1000)").due("tree(1)", 1023);
        chain.go("fall(9)").due("tree(1)", 511).due("tree(0)", 511).go("set(5, 0)").due("tree(1)", 1).due("tree(0)", 511);
        EDGES.sentence(37, "NODES, as bits: that stand (what = 0)");
        for (int node = 1; node < 10; node++) EDGES.behind("fall(" + node + ") set(5, 1000)").due("tree(0)", 1023 - (1 << node)).due("tree(1)", 1023 - (1 << node));
    }

    private static void treeHangs() {
        EDGES.sentence(37, "(10 to 19; NONE: 0, a fallen one)");
        for (int node = 1; node < 10; node++) {
            EDGES.behind("fall(" + node + ")").due("tree(" + (10 + node) + ")", NONE).due("tree(10)", NONE);
        }
        hung(EDGES.fresh(), 0, 0, 1, 1, 2, 2, 3, 3, 4);
        hung(EDGES.behind(all("fall", 1, 9, "")), NONE, NONE, NONE, NONE, NONE, NONE, NONE, NONE, NONE);
    }

    // ---- promise 38

    private static void toldEdges() {
        EDGES.sentence(38, "0 FRAMES, 1 SCENES, as bits, 2 STILLS, as bits, 3 signs, 4 RIGHTS, 5 PIECES, 6 DOORS. OUTSIDE.");
        for (String calls : new String[] {"", Edges.STORY}) {
            Run run = EDGES.behind(calls);
            for (int what : new int[] {Integer.MIN_VALUE, -1, 7, 8, Integer.MAX_VALUE}) run.still("told(" + what + ")", OUTSIDE);
        }
        int[] first = {0, 0, 0, 0, 0, 8, 255}, then = {3, 6, 0, 3, 4, 7, 91};
        for (int what = 0; what < 7; what++) EDGES.fresh().still("told(" + what + ")", first[what]);
        for (int what = 0; what < 7; what++) EDGES.full().still("told(" + what + ")", then[what]);
    }

    private static void toldAtMost() {
        EDGES.sentence(38, "0 FRAMES, 1 SCENES, as bits, 2 STILLS, as bits, 3 signs, 4 RIGHTS, 5 PIECES, 6 DOORS.");
        Run run = EDGES.behind("frame() ".repeat(11) + "say(48) ".repeat(41) + "right(0, 0, 0, 0, 1) ".repeat(13) + "set(1, 0) pieces(1) doors(0)");
        int[] most = {10, 1022, 1022, 40, 12, 1, 0};
        for (int what = 0; what < 7; what++) run.still("told(" + what + ")", most[what]);
    }
}
