import java.util.List;

/** Promise 1 at its edges: a new object is as told at first, and shares nothing with another one. */
public final class NewObjectEdgesTest {
    private static final int UNKNOWN = FilmLines.UNKNOWN, NO = FilmLines.NO, NONE = FilmLines.NONE;
    private static final Edges EDGES = new Edges();

    public static void main(String[] args) {
        constants();
        noFrames();
        noRights();
        noSigns();
        settings();
        film();
        noRule();
        stores();
        seers();
        groups();
        nodes();
        objectsShareNothing();
        EDGES.end("NewObjectEdgesTest");
    }

    private static void constants() {
        EDGES.sentence(1, "NONE = -6, UNKNOWN = -1, OUTSIDE = -2, STATE = -3, FULL = -4, NO = -5;");
        int[] got = {FilmLines.NONE, FilmLines.UNKNOWN, FilmLines.OUTSIDE, FilmLines.STATE, FilmLines.FULL, FilmLines.NO};
        int[] want = {-6, -1, -2, -3, -4, -5};
        for (int i = 0; i < want.length; i++) EDGES.due("constant " + i, got[i], want[i]);
        EDGES.sentence(1, "LOST = -1000000000000000000L;");
        EDGES.due("LOST", Long.compare(FilmLines.LOST, -1_000_000_000_000_000_000L), 0);
    }

    private static void noFrames() {
        EDGES.sentence(1, "As told at first; no FRAMES, RIGHTS.");
        EDGES.fresh().still("told(0)", 0).still("told(1)", 0).still("told(2)", 0)
            .still("dot(0, 0, 1)", UNKNOWN).still("key(0, true)", UNKNOWN).still("key(0, false)", UNKNOWN)
            .still("way(0, 0)", UNKNOWN).still("opened(0, 0)", UNKNOWN).still("of(0, 0)", UNKNOWN)
            .due("frame()", 0);
    }

    private static void noRights() {
        EDGES.sentence(1, "As told at first; no FRAMES, RIGHTS.");
        Run run = EDGES.fresh().still("told(4)", 0);
        for (int seer = 0; seer < 8; seer++) {
            for (int film = 0; film < 6; film++) {
                run.due("may(" + seer + ", " + film + ", 0)", 0).due("may(" + seer + ", " + film + ", 999)", 0);
                run.due("seen(" + seer + ", " + film + ", 0)", 0).due("seen(" + seer + ", " + film + ", 1)", 0);
                run.due("see(" + seer + ", " + film + ", 0, 0, 0)", NO);
            }
        }
        Run owed = EDGES.fresh();
        for (int film = 0; film < 6; film++) owed.due("owed(" + film + ")", 0);
        owed.due("right(0, 0, 0, 0, 1)", 0);
    }

    private static void noSigns() {
        EDGES.sentence(1, "As told at first; no FRAMES, RIGHTS.");
        EDGES.fresh().still("told(3)", 0).still("fault()", 0).still("rule()", NO).due("wipe()", 0).due("say(33)", 1);
    }

    private static void settings() {
        String[] words = {"(0 to 80; 30 at first)", "(0 to 240; 60 at first)", "START, 1 to 8 PIECES, 2 at first",
            "RATE (0 to 100; 3)", "FREE (0 to 60; 5)", "WITHIN (0 to 1000; 30 at first)", "FAN (1 to 9; 2 at first)"};
        int[] first = {30, 60, 2, 3, 5, 30, 2};
        for (int which = 0; which < 7; which++) {
            EDGES.sentence(1, words[which]);
            EDGES.fresh().due("set(" + which + ", 1)", first[which]);
        }
    }

    private static void film() {
        EDGES.sentence(1, "1 to 8 of them (8 at first)");
        EDGES.fresh().still("told(5)", 8).due("pieces(8)", 8);
        EDGES.sentence(1, "at first 20, 40, 80 by SIZE");
        for (int size = 0; size < 3; size++) {
            Run run = EDGES.fresh();
            for (int piece = 0; piece < 8; piece++) run.due("bits(" + piece + ", " + size + ", 1)", 20 << size);
        }
        EDGES.sentence(1, "(bits; all at first)");
        EDGES.fresh().still("told(6)", 255).due("doors(255)", 255);
        EDGES.sentence(1, "(0 to 1000; 40 at first)");
        int[] line = new int[60];
        int[][] state = WholeState.behind(List.of());
        for (int second = 0; second < 60; second++) line[second] = state[WholeState.FIRST_OF_LINE + second / 12][second % 12];
        for (int second = 0; second < 60; second++) EDGES.due("bits in second " + second, line[second], 40);
    }

    private static void noRule() {
        EDGES.sentence(1, "None at first: SIZE 0.");
        EDGES.fresh().row("show", 8, 0, 0, 7, 0, 0, 0, 0, 0, 0, 0, 0);
        EDGES.fresh().go("line(0, 59, 1000)").row("show", 8, 0, 0, 7, 0, 0, 0, 0, 0, 0, 0, 0);
    }

    private static void stores() {
        EDGES.sentence(1, "ROOM (0 to 100; 10 at first), are FAR (0 to 100; 10)");
        for (int town = 0; town < 4; town++) {
            EDGES.fresh().still("kept(" + town + ", 0)", 0).still("kept(" + town + ", 1)", 0)
                .due("town(" + town + ", 0, 1)", 10).due("town(" + town + ", 1, 1)", 10);
        }
        EDGES.sentence(1, "WEIGHT (1 to 50; 5)");
        for (int film = 0; film < 6; film++) EDGES.fresh().due("weight(" + film + ", 1)", 5);
        EDGES.sentence(1, "how often a FILM is asked in a TOWN (0 to 1000; 0)");
        Run run = EDGES.fresh();
        for (int at = 0; at < 24; at++) run.due("ask(" + at / 6 + ", " + at % 6 + ", 1)", 0);
    }

    private static void seers() {
        EDGES.sentence(1, "A SEER (0 to 7) is in a LAND (0 at first)");
        for (int seer = 0; seer < 8; seer++) EDGES.fresh().due("land(" + seer + ", 1)", 0);
        EDGES.sentence(1, "each SEER has a row of 8 bits (0 to 255; 0 at first)");
        for (int seer = 0; seer < 8; seer++) EDGES.fresh().due("mark(" + seer + ", 1)", 0);
        EDGES.fresh().still("blame(255, 0, 0)", 255);
    }

    private static void groups() {
        EDGES.sentence(1, "GROUPS of PIECES (numbers 0 to 65535, 0 to 5 in each of GROUPS 0 to 3)");
        Run run = EDGES.fresh();
        for (int group = 0; group < 4; group++) run.due("sum(" + group + ", 0)", 0).due("sum(" + group + ", 1)", 0);
        for (int at = 0; at < 24; at++) run.due("put(" + at / 6 + ", " + at % 6 + ", 1)", 0);
    }

    private static void nodes() {
        EDGES.sentence(1, "(at first on its own number less 1, by 2, cut) with a delay (1 to 100; 10)");
        int[] on = {NONE, 0, 0, 1, 1, 2, 2, 3, 3, 4};
        int[] behind = {0, 10, 10, 20, 20, 20, 20, 30, 30, 30};
        Run run = EDGES.fresh().still("tree(0)", 1023).still("tree(1)", 1023);
        for (int node = 0; node < 10; node++) {
            run.due("tree(" + (10 + node) + ")", on[node]).due("behind(" + node + ")", behind[node]);
        }
    }

    private static void objectsShareNothing() {
        EDGES.sentence(1, "`FilmLines()`: As told at first");
        int[][] ahead = WholeState.behind(List.of());
        EDGES.full();
        EDGES.same("a story told to another object", ahead, WholeState.behind(List.of()));
        List<String> unlike = WholeState.unlike(ahead, WholeState.behind(Call.each(Edges.STORY)));
        EDGES.due("parts that the story changes: " + unlike, unlike.size(), ahead.length);
    }
}
