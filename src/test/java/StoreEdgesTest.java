/** Promises 19 to 22 at their edges: town, weight, ask, kept. */
public final class StoreEdgesTest {
    private static final int OUTSIDE = FilmLines.OUTSIDE;
    private static final Edges EDGES = new Edges();

    public static void main(String[] args) {
        townEdges();
        townTellsWhatItWas();
        weightEdges();
        askEdges();
        keptEdges();
        keptWithinRoom();
        keptRoomAtItsEdges();
        keptLeastAsks();
        keptLightest();
        keptLeastAsBits();
        keptFarAtItsEdges();
        EDGES.end("StoreEdgesTest");
    }

    private static String askAll(int town, int n) {
        StringBuilder calls = new StringBuilder();
        for (int film = 0; film < 6; film++) calls.append("ask(" + town + ", " + film + ", " + n + ") ");
        return calls.toString();
    }

    // ---- promise 19

    private static void townEdges() {
        EDGES.sentence(19, "TOWNS 0 to 3 have ROOM (0 to 100; 10 at first), are FAR (0 to 100; 10).");
        EDGES.full().grid(new Grid("town").known(0, 3).within(0, 1).within(0, 100));
        EDGES.fresh().grid(new Grid("town").known(0, 3).within(0, 1).within(0, 100));
    }

    private static void townTellsWhatItWas() {
        EDGES.sentence(19, "0 ROOM, 1 FAR of a TOWN: which it was. UNKNOWN; OUTSIDE.");
        for (int town = 0; town < 4; town++) {
            String room = "town(" + town + ", 0, ", far = "town(" + town + ", 1, ";
            Run run = EDGES.fresh().due(room + "0)", 10).due(room + "100)", 0).due(far + "100)", 10).due(far + "0)", 100).due(room + "0)", 100)
                .due(far + "1)", 0).due(room + "0)", 0);
            for (int other = 0; other < 4; other++) if (other != town) run.due("town(" + other + ", 0, 10)", 10).due("town(" + other + ", 1, 10)", 10);
        }
    }

    // ---- promise 20

    private static void weightEdges() {
        EDGES.sentence(20, "FILMS 0 to 5 have WEIGHT (1 to 50; 5).");
        EDGES.full().grid(new Grid("weight").known(0, 5).within(1, 50));
        EDGES.sentence(20, "WEIGHT of a FILM: which it was. UNKNOWN; OUTSIDE.");
        for (int film = 0; film < 6; film++) {
            Run run = EDGES.fresh().due("weight(" + film + ", 1)", 5).due("weight(" + film + ", 50)", 1).due("weight(" + film + ", 1)", 50);
            for (int other = 0; other < 6; other++) if (other != film) run.due("weight(" + other + ", 5)", 5);
        }
    }

    // ---- promise 21

    private static void askEdges() {
        EDGES.sentence(21, "ASKS: how often a FILM is asked in a TOWN (0 to 1000; 0).");
        EDGES.full().grid(new Grid("ask").known(0, 3).known(0, 5).within(0, 1000));
        EDGES.sentence(21, "ASKS: how many there were. UNKNOWN; OUTSIDE.");
        for (int at = 0; at < 24; at++) {
            String ask = "ask(" + at / 6 + ", " + at % 6 + ", ";
            Run run = EDGES.fresh().due(ask + "1000)", 0).due(ask + "0)", 1000).due(ask + "1)", 0).due(ask + "1)", 1);
            for (int other = 0; other < 24; other++) if (other != at) run.due("ask(" + other / 6 + ", " + other % 6 + ", 0)", 0);
        }
    }

    // ---- promise 22

    private static void keptEdges() {
        EDGES.sentence(22, "KEPT of a TOWN, as bits (what = 0), ASKS of others times FAR then (1). UNKNOWN; OUTSIDE.");
        EDGES.full().grid(new Grid("kept").known(0, 3).within(0, 1));
        EDGES.full().still("kept(0, 0)", 9).still("kept(0, 1)", 0).still("kept(2, 0)", 0).still("kept(2, 1)", 60)
            .still("kept(3, 0)", 4).still("kept(3, 1)", 77 * 99).still("kept(1, 0)", 2).still("kept(1, 1)", 0);
    }

    private static void keptWithinRoom() {
        EDGES.sentence(22, "FILMS whose WEIGHTS are no more than its ROOM");
        Run run = EDGES.behind(askAll(0, 1));
        int[] many = {0, 1, 3, 7, 15, 31, 63};
        for (int films = 0; films <= 6; films++) {
            run.go("town(0, 0, " + 5 * films + ")").due("kept(0, 0)", many[films]).due("kept(0, 1)", 10 * (6 - films));
            run.go("town(0, 0, " + (5 * films + 4) + ")").due("kept(0, 0)", many[films]);
        }
    }

    private static void keptRoomAtItsEdges() {
        EDGES.sentence(22, "ROOM (0 to 100; 10 at first)");
        Run run = EDGES.behind(askAll(0, 1) + "weight(0, 50) weight(1, 50) weight(2, 50) weight(3, 50) weight(4, 50) weight(5, 50)");
        run.go("town(0, 0, 100)").due("kept(0, 0)", 3).go("town(0, 0, 99)").due("kept(0, 0)", 1).go("town(0, 0, 50)").due("kept(0, 0)", 1);
        run.go("town(0, 0, 49)").due("kept(0, 0)", 0).go("town(0, 0, 0)").due("kept(0, 0)", 0).due("kept(0, 1)", 60);
        run.go("weight(5, 1)").due("kept(0, 0)", 0).go("town(0, 0, 1)").due("kept(0, 0)", 32).due("kept(0, 1)", 50);
        EDGES.behind(askAll(0, 1) + "weight(0, 20) weight(1, 20) weight(2, 20) weight(3, 20) weight(4, 10) weight(5, 10) town(0, 0, 100)")
            .due("kept(0, 0)", 63).go("weight(5, 11)").due("kept(0, 0)", 55).due("kept(0, 1)", 10);
    }

    private static void keptLeastAsks() {
        EDGES.sentence(22, "so that ASKS of others times FAR is least");
        Run run = EDGES.behind("ask(3, 0, 9) ask(3, 1, 10) ask(3, 2, 11) ask(3, 5, 20) weight(5, 10)");
        run.due("kept(3, 0)", 6).due("kept(3, 1)", 290).go("ask(3, 5, 21)").due("kept(3, 0)", 6);
        run.go("ask(3, 5, 22)").due("kept(3, 0)", 32).due("kept(3, 1)", 300).due("kept(2, 0)", 0);
    }

    private static void keptLightest() {
        EDGES.sentence(22, "of several the lightest");
        EDGES.behind("ask(0, 0, 10) ask(0, 1, 5) ask(0, 2, 5) weight(0, 10)").due("kept(0, 0)", 1).due("kept(0, 1)", 100)
            .go("weight(1, 4)").due("kept(0, 0)", 6).go("weight(0, 9)").due("kept(0, 0)", 1);
        EDGES.behind("town(0, 0, 100)").due("kept(0, 0)", 0).go("ask(0, 5, 1)").due("kept(0, 0)", 32);
    }

    private static void keptLeastAsBits() {
        EDGES.sentence(22, "then the least as bits.");
        EDGES.behind(askAll(0, 7)).due("kept(0, 0)", 3).go("ask(0, 0, 6)").due("kept(0, 0)", 6).go("ask(0, 2, 6)").due("kept(0, 0)", 10);
        EDGES.behind("ask(0, 0, 10) ask(0, 1, 5) ask(0, 2, 5) weight(0, 10)").due("kept(0, 0)", 1);
        EDGES.behind("ask(0, 5, 10) ask(0, 1, 5) ask(0, 2, 5) weight(5, 10)").due("kept(0, 0)", 6);
    }

    private static void keptFarAtItsEdges() {
        EDGES.sentence(22, "are FAR (0 to 100; 10)");
        EDGES.behind(askAll(0, 1000) + "town(0, 0, 0) town(0, 1, 100)").due("kept(0, 0)", 0).due("kept(0, 1)", 600000);
        EDGES.behind(askAll(0, 1000) + "town(0, 1, 1)").due("kept(0, 0)", 3).due("kept(0, 1)", 4000);
        EDGES.behind(askAll(0, 1000) + "town(0, 1, 0)").due("kept(0, 0)", 0).due("kept(0, 1)", 0).still("town(0, 1, 101)", OUTSIDE);
    }
}
