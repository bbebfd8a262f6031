/** Promises 29 and 30 at their edges: mark, blame. */
public final class MarkEdgesTest {
    private static final int NONE = FilmLines.NONE, OUTSIDE = FilmLines.OUTSIDE;
    private static final Edges EDGES = new Edges();

    public static void main(String[] args) {
        markEdges();
        markTellsWhatItWas();
        blameEdges();
        blameNothingKnown();
        blameAllKnown();
        blameEachBit();
        blamePairs();
        blamePairsNeitherBlamed();
        blameFirstPair();
        blameInnocent();
        blameUnknownBits();
        EDGES.end("MarkEdgesTest");
    }

    /** The four answers for a COPY: BLAMED ones, PAIRS, the first one, INNOCENT. */
    private static void copy(Run run, int known, int is, int... wants) {
        for (int what = 0; what < 4; what++) run.due("blame(" + known + ", " + is + ", " + what + ")", wants[what]);
    }

    // ---- promise 29

    private static void markEdges() {
        EDGES.sentence(29, "MARKS: each SEER has a row of 8 bits (0 to 255; 0 at first)");
        EDGES.full().grid(new Grid("mark").known(0, 7).within(0, 255));
        EDGES.fresh().grid(new Grid("mark").known(0, 7).within(0, 255));
    }

    private static void markTellsWhatItWas() {
        EDGES.sentence(29, "MARK of a SEER: which it was. UNKNOWN; OUTSIDE.");
        for (int seer = 0; seer < 8; seer++) {
            Run run = EDGES.fresh().due("mark(" + seer + ", 255)", 0).due("mark(" + seer + ", 0)", 255).due("mark(" + seer + ", 255)", 0);
            run.due("blame(255, 255, 0)", 1 << seer);
            for (int other = 0; other < 8; other++) if (other != seer) run.due("mark(" + other + ", 0)", 0);
        }
    }

    // ---- promise 30

    private static void blameEdges() {
        EDGES.sentence(30, "OUTSIDE: known, is 0 to 255 (of what is not known nothing counts).");
        EDGES.full().grid(new Grid("blame").within(0, 255).within(0, 255).within(0, 3));
        EDGES.full().still("blame(255, 0, 0)", 52).still("blame(255, 255, 0)", 8).still("blame(255, 255, 3)", 256).still("blame(0, 255, 0)", 255)
            .still("blame(255, 255, 1)", 1).still("blame(255, 255, 2)", 1).still("blame(0, 0, 4)", OUTSIDE).still("blame(0, 0, -1)", OUTSIDE);
    }

    private static void blameNothingKnown() {
        EDGES.sentence(30, "bits that are known (0 to 255) and what they are. BLAMED: SEERS whose MARK is so in all known ones.");
        for (int is : new int[] {0, 1, 128, 255}) copy(EDGES.full(), 0, is, 255, 0, NONE, 1);
    }

    private static void blameAllKnown() {
        EDGES.sentence(30, "BLAMED: SEERS whose MARK is so in all known ones.");
        copy(EDGES.fresh(), 255, 0, 255, 0, NONE, 256);
        copy(EDGES.fresh(), 255, 255, 0, 0, NONE, 256);
        copy(EDGES.behind("mark(7, 255)"), 255, 255, 128, 0, NONE, 256);
        copy(EDGES.behind("mark(7, 255) mark(0, 254)"), 255, 255, 128, 0, NONE, 256);
        copy(EDGES.behind("mark(0, 255) mark(7, 127)"), 255, 255, 1, 0, NONE, 256);
    }

    private static void blameEachBit() {
        EDGES.sentence(30, "whose MARK is so in all known ones");
        for (int bit = 0; bit < 8; bit++) {
            int one = 1 << bit;
            Run run = EDGES.behind("mark(" + bit + ", " + one + ")");
            copy(run, one, one, one, 0, NONE, 2);
            copy(run, one, 0, 255 - one, 0, NONE, 2);
            copy(run, 255 - one, 0, 255, 0, NONE, 128);
            copy(run, 255, one, one, 0, NONE, 256);
        }
    }

    private static void blamePairs() {
        EDGES.sentence(30, "of whom in each known one one or the other has it so.");
        StringBuilder story = new StringBuilder();
        for (int seer = 0; seer < 8; seer++) story.append("mark(" + seer + ", " + (255 - (1 << seer)) + ") ");
        copy(EDGES.behind(story.toString()), 255, 255, 0, 28, 1, 256);
        copy(EDGES.behind(story.toString()), 254, 255, 1, 21, 12, 128);
        copy(EDGES.behind("mark(0, 240) mark(1, 15)"), 255, 255, 0, 1, 1, 256);
        copy(EDGES.behind("mark(0, 240) mark(1, 14)"), 255, 255, 0, 0, NONE, 256);
        copy(EDGES.behind("mark(0, 240) mark(1, 14)"), 254, 255, 0, 1, 1, 128);
        copy(EDGES.behind("mark(0, 248) mark(1, 31)"), 255, 255, 0, 1, 1, 256);
    }

    private static void blamePairsNeitherBlamed() {
        EDGES.sentence(30, "PAIRS: two SEERS (neither BLAMED)");
        copy(EDGES.behind("mark(0, 255) mark(1, 240) mark(2, 15)"), 255, 255, 1, 1, 12, 256);
        copy(EDGES.behind("mark(0, 240) mark(1, 255) mark(2, 15)"), 255, 255, 2, 1, 2, 256);
        copy(EDGES.behind("mark(0, 240) mark(1, 255)"), 255, 255, 2, 0, NONE, 256);
    }

    private static void blameFirstPair() {
        EDGES.sentence(30, "the first one: 10 times the one of the lesser number, and the other (2; NONE)");
        for (int one = 0; one < 8; one++) {
            for (int other = one + 1; other < 8; other++) {
                copy(EDGES.behind("mark(" + one + ", 170) mark(" + other + ", 85)"), 255, 255, 0, 1, 10 * one + other, 256);
                copy(EDGES.behind("mark(" + one + ", 85) mark(" + other + ", 170)"), 255, 255, 0, 1, 10 * one + other, 256);
            }
        }
        copy(EDGES.behind("mark(0, 15) mark(5, 240) mark(1, 170) mark(2, 85)"), 255, 255, 0, 2, 5, 256);
        copy(EDGES.behind("mark(3, 15) mark(7, 240) mark(4, 240)"), 255, 255, 0, 2, 34, 256);
    }

    private static void blameInnocent() {
        EDGES.sentence(30, "1 by 2 to the number of known ones.");
        Run run = EDGES.fresh();
        int[] lower = {1, 2, 4, 8, 16, 32, 64, 128, 256};
        for (int many = 0; many <= 8; many++) {
            run.due("blame(" + ((1 << many) - 1) + ", 0, 3)", lower[many]).due("blame(" + (255 & ~((1 << 8 - many) - 1)) + ", 255, 3)", lower[many]);
        }
        run.due("blame(170, 85, 3)", 16).due("blame(85, 0, 3)", 16).due("blame(129, 0, 3)", 4);
    }

    private static void blameUnknownBits() {
        EDGES.sentence(30, "(of what is not known nothing counts)");
        Run run = EDGES.behind("mark(0, 15) mark(1, 31) mark(2, 240)");
        copy(run, 15, 15, 3, 0, NONE, 16);
        copy(run, 15, 255, 3, 0, NONE, 16);
        copy(run, 240, 240, 4, 0, NONE, 16);
        copy(run, 240, 255, 4, 0, NONE, 16);
        copy(run, 240, 15, 249, 0, NONE, 16);
    }
}
