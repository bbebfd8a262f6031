/** Promises 23 to 28 at their edges: right, land, may, see, seen, owed. */
public final class RightEdgesTest {
    private static final int OUTSIDE = FilmLines.OUTSIDE, FULL = FilmLines.FULL, NO = FilmLines.NO, UNKNOWN = FilmLines.UNKNOWN;
    private static final String ALWAYS = "right(0, 0, 0, 999, 20) ";
    private static final Edges EDGES = new Edges();

    public static void main(String[] args) {
        rightEdges();
        rightFull();
        rightAtItsEdges();
        landEdges();
        landCounts();
        mayEdges();
        mayHours();
        mayTimes();
        mayForItsFilmAndLand();
        seeEdges();
        seeSeconds();
        seeRefused();
        seeTimes();
        seenEdges();
        seenOnce();
        owedEdges();
        owedFree();
        owedRate();
        EDGES.end("RightEdgesTest");
    }

    // ---- promise 23

    private static void rightEdges() {
        EDGES.sentence(23, "a FILM, a LAND (0 to 3), hours from .. to (0 to 999, both counted), how many times (1 to 20).");
        EDGES.full().grid(new Grid("right").known(0, 5).known(0, 3).within(0, 999).upTo(0, 999).within(1, 20));
        EDGES.sentence(23, "UNKNOWN: FILM, LAND (0 to 3); OUTSIDE; FULL.");
        EDGES.full().still("right(6, 0, 0, 0, 1)", UNKNOWN).still("right(0, 4, 0, 0, 1)", UNKNOWN).still("right(0, -1, 0, 0, 21)", UNKNOWN)
            .still("right(0, 0, 5, 4, 1)", OUTSIDE).still("right(0, 0, 999, 998, 1)", OUTSIDE).still("right(0, 0, 1, 0, 1)", OUTSIDE)
            .due("right(0, 0, 0, 0, 1)", 4).due("right(5, 3, 999, 999, 20)", 5).due("right(5, 3, 0, 999, 1)", 6);
    }

    private static void rightFull() {
        EDGES.sentence(23, "RIGHTS, 12 at most, numbered from 0 on");
        Run run = EDGES.fresh();
        for (int number = 0; number < 12; number++) run.due("told(4)", number).due("right(0, 0, " + number + ", " + number + ", 1)", number);
        run.still("right(1, 0, 0, 999, 1)", FULL).still("right(0, 0, 12, 12, 1)", FULL).still("told(4)", 12);
        run.still("right(6, 0, 0, 0, 1)", UNKNOWN).still("right(0, 4, 0, 0, 1)", UNKNOWN).still("right(0, 0, 1, 0, 1)", OUTSIDE)
            .still("right(0, 0, 0, 1000, 1)", OUTSIDE).still("right(0, 0, 0, 0, 0)", OUTSIDE).still("right(0, 0, 0, 0, 21)", OUTSIDE);
        run.due("may(0, 0, 0)", 1).due("may(0, 0, 11)", 1).due("may(0, 0, 12)", 0).due("may(0, 1, 0)", 0);
    }

    private static void rightAtItsEdges() {
        EDGES.sentence(23, "A RIGHT: its number.");
        for (int film = 0; film < 6; film++) {
            for (int land = 0; land < 4; land++) {
                Run run = EDGES.behind("right(" + film + ", " + land + ", 0, 999, 1) land(7, " + land + ")");
                for (int other = 0; other < 6; other++) run.due("may(7, " + other + ", 500)", other == film ? 1 : 0);
                run.due("may(0, " + film + ", 500)", land == 0 ? 1 : 0);
            }
        }
    }

    // ---- promise 24

    private static void landEdges() {
        EDGES.sentence(24, "LAND of a SEER: which it was. UNKNOWN.");
        EDGES.full().grid(new Grid("land").known(0, 7).known(0, 3));
        EDGES.full().due("land(7, 0)", 3).due("land(7, 3)", 0).due("land(7, 3)", 3).due("land(0, 3)", 0).due("land(0, 0)", 3);
    }

    private static void landCounts() {
        EDGES.sentence(24, "A SEER (0 to 7) is in a LAND (0 at first).");
        for (int seer = 0; seer < 8; seer++) {
            Run run = EDGES.behind("right(0, 3, 0, 999, 1) right(0, 0, 0, 0, 1)").due("may(" + seer + ", 0, 9)", 0).due("land(" + seer + ", 3)", 0);
            for (int other = 0; other < 8; other++) run.due("may(" + other + ", 0, 9)", other == seer ? 1 : 0);
            for (int other = 0; other < 8; other++) run.due("may(" + other + ", 0, 0)", 1);
        }
    }

    // ---- promise 25

    private static void mayEdges() {
        EDGES.sentence(25, "Whether a SEER MAY see a FILM in an hour: 1, 0. UNKNOWN; OUTSIDE.");
        EDGES.full().grid(new Grid("may").known(0, 7).known(0, 5).within(0, 999));
        EDGES.full().still("may(2, 0, 10)", 1).still("may(2, 0, 9)", 0).still("may(1, 1, 0)", 1).still("may(6, 1, 999)", 1);
    }

    private static void mayHours() {
        EDGES.sentence(25, "hours from .. to (0 to 999, both counted)");
        EDGES.behind("right(0, 0, 5, 7, 1)").due("may(0, 0, 4)", 0).due("may(0, 0, 5)", 1).due("may(0, 0, 6)", 1).due("may(0, 0, 7)", 1).due("may(0, 0, 8)", 0);
        EDGES.behind("right(0, 0, 5, 5, 1)").due("may(0, 0, 4)", 0).due("may(0, 0, 5)", 1).due("may(0, 0, 6)", 0);
        EDGES.behind("right(0, 0, 0, 0, 1)").due("may(0, 0, 0)", 1).due("may(0, 0, 1)", 0).due("may(0, 0, 999)", 0);
        EDGES.behind("right(0, 0, 999, 999, 1)").due("may(0, 0, 999)", 1).due("may(0, 0, 998)", 0).due("may(0, 0, 0)", 0);
        EDGES.behind("right(0, 0, 0, 999, 1)").due("may(0, 0, 0)", 1).due("may(0, 0, 999)", 1);
        EDGES.behind("right(0, 0, 0, 4, 1) right(0, 0, 6, 9, 1)").due("may(0, 0, 4)", 1).due("may(0, 0, 5)", 0).due("may(0, 0, 6)", 1);
    }

    private static void mayTimes() {
        EDGES.sentence(25, "and it has seen that FILM fewer times than that tells.");
        for (int times : new int[] {1, 2, 20}) {
            Run run = EDGES.behind("right(0, 0, 0, 999, " + times + ")");
            for (int n = 0; n < times; n++) run.due("may(0, 0, 0)", 1).due("see(0, 0, 0, 0, 0)", n == 0 ? 1 : 0);
            run.due("may(0, 0, 0)", 0).due("may(1, 0, 0)", 1).due("seen(0, 0, 1)", times);
        }
    }

    private static void mayForItsFilmAndLand() {
        EDGES.sentence(25, "if some RIGHT for its FILM and LAND holds that hour");
        // The hour is by one RIGHT and the times by another one: neither alone lets it see.
        Run run = EDGES.behind("right(0, 0, 0, 9, 1) right(0, 0, 10, 19, 2) right(1, 0, 0, 999, 20) right(0, 1, 0, 999, 20) see(0, 0, 5, 0, 0)");
        run.due("may(0, 0, 9)", 0).due("may(0, 0, 10)", 1).due("may(0, 0, 20)", 0).due("may(0, 1, 20)", 1).go("see(0, 0, 19, 0, 0)").due("may(0, 0, 19)", 0);
        run.go("land(0, 1)").due("may(0, 0, 19)", 1).due("may(0, 1, 20)", 0);
    }

    // ---- promise 26

    private static void seeEdges() {
        EDGES.sentence(26, "SEEING: a SEER, a FILM, an hour, seconds from .. to (0 to 59, both counted)");
        EDGES.full().grid(new Grid("see").known(0, 7).known(0, 5).within(0, 999).within(0, 59).upTo(0, 59));
        EDGES.behind(ALWAYS).still("see(0, 0, 0, 1, 0)", OUTSIDE).still("see(0, 0, 0, 59, 58)", OUTSIDE).still("see(0, 0, 0, -1, 60)", OUTSIDE)
            .still("see(0, 0, 1000, 0, 0)", OUTSIDE).still("see(0, 0, -1, 0, 0)", OUTSIDE).still("see(8, 0, -1, 0, 0)", UNKNOWN)
            .still("see(0, 6, 0, 1, 0)", UNKNOWN).still("see(-1, -1, 0, 0, 0)", UNKNOWN);
    }

    private static void seeSeconds() {
        EDGES.sentence(26, "SEEING: SEEN seconds that are new by it.");
        EDGES.behind(ALWAYS).due("see(0, 0, 0, 0, 0)", 1).due("see(0, 0, 0, 59, 59)", 1).due("see(0, 0, 999, 0, 59)", 58).due("see(0, 0, 0, 0, 59)", 0);
        EDGES.behind(ALWAYS).due("see(0, 0, 0, 0, 59)", 60).due("seen(0, 0, 0)", 60);
        EDGES.behind(ALWAYS).due("see(0, 0, 0, 10, 20)", 11).due("see(0, 0, 0, 20, 21)", 1).due("see(0, 0, 0, 9, 10)", 1).due("see(0, 0, 0, 8, 22)", 2)
            .due("see(0, 0, 0, 31, 32)", 2).due("see(0, 0, 0, 30, 33)", 2).due("seen(0, 0, 0)", 19);
        EDGES.behind(ALWAYS + "see(0, 0, 0, 0, 59)").due("see(1, 0, 0, 0, 59)", 60).due("see(7, 0, 0, 1, 58)", 58);
    }

    private static void seeRefused() {
        EDGES.sentence(26, "NO: it MAY not.");
        EDGES.full().still("see(0, 0, 9, 0, 0)", NO).still("see(0, 0, 501, 0, 0)", NO).still("see(7, 5, 500, 0, 0)", NO)
            .still("see(2, 4, 0, 0, 59)", NO).still("see(1, 0, 10, 0, 0)", NO).still("see(2, 4, 0, 1, 0)", OUTSIDE).still("see(2, 4, 0, 0, 60)", OUTSIDE);
        EDGES.fresh().still("see(0, 0, 0, 0, 0)", NO).still("seen(0, 0, 0)", 0).still("seen(0, 0, 1)", 0).still("owed(0)", 0);
    }

    private static void seeTimes() {
        EDGES.sentence(26, "how many times (1 to 20)");
        Run run = EDGES.behind(ALWAYS);
        for (int n = 0; n < 20; n++) run.due("see(0, 0, 0, " + n + ", " + n + ")", 1);
        run.still("see(0, 0, 0, 30, 30)", NO).still("seen(0, 0, 0)", 20).still("seen(0, 0, 1)", 20).due("see(1, 0, 0, 30, 30)", 1);
        EDGES.behind("right(0, 0, 0, 999, 1)").due("see(0, 0, 0, 0, 0)", 1).still("see(0, 0, 0, 1, 1)", NO).due("see(1, 0, 0, 1, 1)", 1);
    }

    // ---- promise 27

    private static void seenEdges() {
        EDGES.sentence(27, "Of a SEER and a FILM: SEEN seconds (what = 0), times (1). UNKNOWN; OUTSIDE.");
        EDGES.full().grid(new Grid("seen").known(0, 7).known(0, 5).within(0, 1));
        EDGES.full().still("seen(0, 0, 0)", 13).still("seen(0, 0, 1)", 2).still("seen(7, 5, 0)", 60).still("seen(7, 5, 1)", 1)
            .still("seen(0, 1, 0)", 0).still("seen(1, 0, 1)", 0).still("seen(1, 1, 0)", 1).still("seen(6, 1, 0)", 10);
    }

    private static void seenOnce() {
        EDGES.sentence(27, "SEEN seconds of a SEER and a FILM: each counts once.");
        EDGES.behind(ALWAYS + "see(0, 0, 0, 5, 5) see(0, 0, 0, 5, 5) see(0, 0, 0, 5, 6)").due("seen(0, 0, 0)", 2).due("seen(0, 0, 1)", 3);
        EDGES.behind(ALWAYS + "see(0, 0, 0, 0, 59) see(0, 0, 0, 0, 59)").due("seen(0, 0, 0)", 60).due("seen(0, 0, 1)", 2);
        // What was seen in one LAND is seen in another one too.
        EDGES.behind(ALWAYS + "right(0, 1, 0, 999, 2) see(0, 0, 0, 0, 9) land(0, 1)").due("see(0, 0, 0, 5, 14)", 5).due("may(0, 0, 0)", 0).due("seen(0, 0, 1)", 2);
    }

    // ---- promise 28

    private static void owedEdges() {
        EDGES.sentence(28, "OWED. UNKNOWN.");
        EDGES.full().grid(new Grid("owed").known(0, 5)).still("owed(0)", 77).still("owed(5)", 58 * 7).still("owed(1)", 56).still("owed(2)", 0);
    }

    private static void owedFree() {
        EDGES.sentence(28, "for the first FREE (0 to 60; 5) of them nothing.");
        Run run = EDGES.behind(ALWAYS + "see(0, 0, 0, 0, 3)").due("owed(0)", 0).go("see(0, 0, 0, 4, 4)").due("owed(0)", 0).go("see(0, 0, 0, 59, 59)").due("owed(0)", 3);
        run.go("set(4, 6)").due("owed(0)", 0).go("set(4, 0)").due("owed(0)", 18).go("set(4, 1)").due("owed(0)", 15);
        Run all = EDGES.behind(ALWAYS + "see(0, 0, 0, 0, 59) set(4, 60)").due("owed(0)", 0).go("set(4, 59)").due("owed(0)", 3);
        // What one SEER leaves of its FREE ones is not for others, nor for another FILM.
        all.go("set(4, 10) see(1, 0, 0, 0, 4) see(2, 0, 0, 0, 10)").due("owed(0)", 153).due("owed(1)", 0);
    }

    private static void owedRate() {
        EDGES.sentence(28, "of each SEER's SEEN seconds of it RATE (0 to 100; 3) each");
        StringBuilder story = new StringBuilder(ALWAYS);
        for (int seer = 0; seer < 8; seer++) story.append("see(" + seer + ", 0, 0, 0, 59) see(" + seer + ", 0, 0, 0, 59) ");
        Run run = EDGES.behind(story.toString()).due("owed(0)", 1320).go("set(3, 0)").due("owed(0)", 0).go("set(3, 1)").due("owed(0)", 440);
        run.go("set(3, 100)").due("owed(0)", 44000).go("set(4, 0)").due("owed(0)", 48000).due("owed(1)", 0);
        // The LAND a SEER is in by now does not matter to what it has seen.
        run.go("land(0, 3)").due("owed(0)", 48000);
    }
}
