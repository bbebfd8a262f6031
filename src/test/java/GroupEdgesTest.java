/** Promises 31 to 33 at their edges: put, sum, restore. */
public final class GroupEdgesTest {
    private static final int NONE = FilmLines.NONE, NO = FilmLines.NO, OUTSIDE = FilmLines.OUTSIDE, UNKNOWN = FilmLines.UNKNOWN;
    private static final int[] NUMBERS = {65535, 0, 600, 1, 1234, 65534};
    private static final Edges EDGES = new Edges();

    public static void main(String[] args) {
        putEdges();
        putTellsWhatItWas();
        sumEdges();
        sumAtMost();
        sumOfEachPlace();
        restoreEdges();
        restoreOne();
        restoreTwo();
        restoreMore();
        restoreNotLost();
        EDGES.end("GroupEdgesTest");
    }

    private static String putAll(int group) {
        StringBuilder calls = new StringBuilder();
        for (int i = 0; i < 6; i++) calls.append("put(" + group + ", " + i + ", " + NUMBERS[i] + ") ");
        return calls.toString();
    }

    // ---- promise 31

    private static void putEdges() {
        EDGES.sentence(31, "GROUPS of PIECES (numbers 0 to 65535, 0 to 5 in each of GROUPS 0 to 3)");
        EDGES.full().grid(new Grid("put").known(0, 3).within(0, 5).within(0, 65535));
        EDGES.fresh().grid(new Grid("put").known(0, 3).within(0, 5).within(0, 65535));
    }

    private static void putTellsWhatItWas() {
        EDGES.sentence(31, "A number in a GROUP (0 to 3) at 0 to 5: which it was. UNKNOWN; OUTSIDE.");
        for (int at = 0; at < 24; at++) {
            String put = "put(" + at / 6 + ", " + at % 6 + ", ";
            Run run = EDGES.fresh().due(put + "65535)", 0).due(put + "0)", 65535).due(put + "1)", 0).due(put + "1)", 1);
            for (int other = 0; other < 24; other++) if (other != at) run.due("put(" + other / 6 + ", " + other % 6 + ", 0)", 0);
        }
    }

    // ---- promise 32

    private static void sumEdges() {
        EDGES.sentence(32, "The SUMS (which = 0, 1). UNKNOWN; OUTSIDE.");
        EDGES.full().grid(new Grid("sum").known(0, 3).within(0, 1));
        EDGES.full().still("sum(0, 0)", 65539).still("sum(0, 1)", 65559).still("sum(3, 0)", 65535).still("sum(3, 1)", 393210).still("sum(2, 1)", 4);
    }

    private static void sumAtMost() {
        EDGES.sentence(32, "each with a SUM of all six, and a second one: of each times its place and 1.");
        for (int group = 0; group < 4; group++) {
            StringBuilder story = new StringBuilder();
            for (int i = 0; i < 6; i++) story.append("put(" + group + ", " + i + ", 65535) ");
            Run run = EDGES.behind(story.toString()).due("sum(" + group + ", 0)", 393210).due("sum(" + group + ", 1)", 1376235);
            for (int other = 0; other < 4; other++) if (other != group) run.due("sum(" + other + ", 0)", 0).due("sum(" + other + ", 1)", 0);
        }
        EDGES.fresh().still("sum(0, 0)", 0).still("sum(0, 1)", 0).still("sum(3, 0)", 0).still("sum(3, 1)", 0);
    }

    private static void sumOfEachPlace() {
        EDGES.sentence(32, "of each times its place and 1");
        for (int i = 0; i < 6; i++) {
            EDGES.behind("put(3, " + i + ", 65535)").due("sum(3, 0)", 65535).due("sum(3, 1)", 65535 * (i + 1)).due("sum(2, 0)", 0).due("sum(2, 1)", 0);
        }
    }

    // ---- promise 33

    private static void restoreEdges() {
        EDGES.sentence(33, "UNKNOWN; OUTSIDE; NO: it is not LOST.");
        EDGES.full().grid(new Grid("restore").known(0, 3).within(0, 255).within(0, 5));
        EDGES.full().still("restore(4, 0, 0)", UNKNOWN).still("restore(-1, 256, 6)", UNKNOWN).still("restore(0, 0, 6)", OUTSIDE)
            .still("restore(0, 64, 6)", OUTSIDE).still("restore(0, 192, 7)", OUTSIDE).still("restore(0, 256, 0)", OUTSIDE).still("restore(0, -1, 0)", OUTSIDE);
    }

    private static void restoreOne() {
        EDGES.sentence(33, "is RESTORED, if it is one, by either SUM");
        for (int group = 0; group < 4; group++) {
            Run run = EDGES.behind(putAll(group));
            for (int i = 0; i < 6; i++) {
                int lost = 1 << i;
                run.due("restore(" + group + ", " + lost + ", " + i + ")", NUMBERS[i]);
                run.due("restore(" + group + ", " + (lost + 64) + ", " + i + ")", NUMBERS[i]);
                run.due("restore(" + group + ", " + (lost + 128) + ", " + i + ")", NUMBERS[i]);
                run.due("restore(" + group + ", " + (lost + 192) + ", " + i + ")", NONE);
            }
        }
        EDGES.fresh().still("restore(0, 1, 0)", 0).still("restore(3, 32, 5)", 0).still("restore(0, 193, 0)", NONE);
    }

    private static void restoreTwo() {
        EDGES.sentence(33, "or two, by both; else it is MADE UP.");
        for (int one = 0; one < 6; one++) {
            for (int two = one + 1; two < 6; two++) {
                Run run = EDGES.behind(putAll(2));
                int lost = (1 << one) + (1 << two);
                run.due("restore(2, " + lost + ", " + one + ")", NUMBERS[one]).due("restore(2, " + lost + ", " + two + ")", NUMBERS[two]);
                for (int sums : new int[] {64, 128, 192}) {
                    run.due("restore(2, " + (lost + sums) + ", " + one + ")", NONE).due("restore(2, " + (lost + sums) + ", " + two + ")", NONE);
                }
            }
        }
    }

    private static void restoreMore() {
        EDGES.sentence(33, "its number, RESTORED; NONE: MADE UP.");
        Run run = EDGES.behind(putAll(1));
        for (int lost : new int[] {7, 56, 63, 42, 255, 127, 191}) {
            for (int i = 0; i < 6; i++) if ((lost >> i & 1) == 1) run.due("restore(1, " + lost + ", " + i + ")", NONE);
        }
        EDGES.behind(putAll(1)).still("restore(1, 255, 0)", NONE).still("restore(1, 3, 1)", 0).still("restore(1, 33, 5)", 65534);
    }

    private static void restoreNotLost() {
        EDGES.sentence(33, "NO: it is not LOST.");
        Run run = EDGES.behind(putAll(3));
        for (int i = 0; i < 6; i++) {
            run.due("restore(3, 0, " + i + ")", NO).due("restore(3, 192, " + i + ")", NO).due("restore(3, " + (255 - (1 << i)) + ", " + i + ")", NO);
        }
        EDGES.full().still("restore(0, 0, 0)", NO).still("restore(0, 254, 0)", NO).still("restore(3, 31, 5)", NO).still("restore(3, 223, 5)", NO);
    }
}
