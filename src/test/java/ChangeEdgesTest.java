/** What each call that is carried out changes, and that it leaves all else as it was. */
public final class ChangeEdgesTest {
    private static final String TOLD = "what is told", SETTINGS = "settings", DOTS = "DOTS and KEYS", CUT = "CUT", FILM = "PIECES and DOORS";
    private static final String SHOWS = "SHOW and BEST", RULE = "THE RULE", SIGNS = "the signs", TOWNS = "TOWNS", SEEN = "SEEN";
    private static final String HOURS = "RIGHTS by hours", TIMES = "RIGHTS by times", NODES = "NODES", DELAYS = "delays";
    private static final Edges EDGES = new Edges();

    public static void main(String[] args) {
        frames();
        settings();
        shows();
        signs();
        stores();
        rights();
        marksAndGroups();
        trees();
        EDGES.end("ChangeEdgesTest");
    }

    private static void frames() {
        EDGES.sentence(2, "A FRAME: its number.");
        EDGES.full().changes("frame()", 3, TOLD, DOTS, CUT);
        EDGES.sentence(3, "A DOT: which it was.");
        EDGES.full().changes("dot(1, 15, 1)", 0, DOTS, CUT).changes("dot(1, 15, 1)", 1).changes("dot(0, 0, 3)", 3);
        EDGES.sentence(4, "A FRAME is a KEY, or not");
        EDGES.full().changes("key(2, false)", 1, DOTS, CUT).changes("key(2, false)", 0).changes("key(1, false)", 0);
    }

    private static void settings() {
        EDGES.sentence(5, "0 BITS, 1 SCENE, 2 START, 3 RATE, 4 FREE, 5 WITHIN, 6 FAN: which it was.");
        EDGES.full().changes("set(0, 20)", 41, SETTINGS, CUT).changes("set(0, 20)", 20);
        EDGES.full().changes("set(1, 50)", 44, TOLD, SETTINGS, CUT).changes("set(1, 50)", 50);
        EDGES.full().changes("set(2, 7)", 3, SETTINGS, SHOWS).changes("set(2, 7)", 7);
        EDGES.full().changes("set(3, 9)", 7, SETTINGS, SEEN).changes("set(3, 9)", 9);
        EDGES.full().changes("set(4, 10)", 2, SETTINGS, SEEN).changes("set(4, 10)", 10);
        EDGES.full().changes("set(5, 5)", 25, SETTINGS, NODES).changes("set(5, 5)", 5);
        EDGES.full().changes("set(6, 1)", 3, SETTINGS).changes("set(6, 1)", 1);
    }

    private static void shows() {
        EDGES.sentence(9, "PIECES: how many there were.");
        EDGES.full().changes("pieces(3)", 7, TOLD, FILM, SHOWS).changes("pieces(3)", 3);
        EDGES.sentence(10, "Bits of a PIECE in a SIZE: which they were.");
        EDGES.full().changes("bits(2, 1, 999)", 40, FILM, SHOWS).changes("bits(2, 1, 999)", 999).changes("bits(7, 0, 3)", 20, FILM);
        EDGES.sentence(11, "DOORS: which they were.");
        EDGES.full().changes("doors(0)", 91, TOLD, FILM, SHOWS).changes("doors(0)", 0);
        EDGES.sentence(12, "LINE from a second to one (from not above to): 1.");
        EDGES.full().changes("line(3, 3, 4)", 1, SHOWS, "LINE 0 to 11").changes("line(3, 3, 4)", 1)
            .changes("line(11, 12, 40)", 1, "LINE 12 to 23").changes("line(23, 36, 1)", 1, "LINE 12 to 23", "LINE 24 to 35", "LINE 36 to 47")
            .changes("line(59, 59, 0)", 1, "LINE 48 to 59");
    }

    private static void signs() {
        EDGES.sentence(13, "A sign more: how many.");
        EDGES.full().changes("say(53)", 4, TOLD, SIGNS);
        EDGES.sentence(14, "Signs go: how many there were.");
        EDGES.full().changes("wipe()", 3, TOLD, SIGNS).changes("wipe()", 0);
        EDGES.behind(Edges.STORY + "wipe() " + "say(98) ".repeat(40)).changes("wipe()", 40, TOLD, SIGNS);
        EDGES.sentence(16, "THE RULE is the text (the signs are empty then): 1.");
        EDGES.full().says(":1;0").changes("rule()", 1, TOLD, SHOWS, RULE, SIGNS);
        EDGES.full().go("wipe()").says("b>1:2;l<55:1;0").changes("rule()", 1, TOLD, SIGNS);
    }

    private static void stores() {
        EDGES.sentence(19, "0 ROOM, 1 FAR of a TOWN: which it was.");
        EDGES.full().changes("town(0, 0, 3)", 12, TOWNS).changes("town(0, 0, 3)", 3).changes("town(0, 1, 3)", 10, TOWNS).changes("town(0, 1, 3)", 3);
        EDGES.sentence(20, "WEIGHT of a FILM: which it was.");
        EDGES.full().changes("weight(3, 40)", 2, TOWNS).changes("weight(3, 40)", 40);
        EDGES.sentence(21, "ASKS: how many there were.");
        EDGES.full().changes("ask(3, 0, 9)", 0, TOWNS).changes("ask(3, 0, 9)", 9);
    }

    private static void rights() {
        EDGES.sentence(23, "A RIGHT: its number.");
        EDGES.full().changes("right(4, 1, 10, 500, 2)", 4, TOLD, HOURS, TIMES).changes("right(3, 2, 500, 501, 9)", 5, TOLD, SEEN, HOURS, TIMES);
        EDGES.sentence(24, "LAND of a SEER: which it was.");
        EDGES.full().changes("land(3, 2)", 0, SEEN).changes("land(3, 2)", 2).changes("land(6, 0)", 2, SEEN, TIMES);
        EDGES.sentence(26, "SEEING: SEEN seconds that are new by it.");
        EDGES.full().changes("see(2, 0, 30, 4, 5)", 2, SEEN).changes("see(2, 0, 30, 4, 5)", 0, SEEN);
    }

    private static void marksAndGroups() {
        EDGES.sentence(29, "MARK of a SEER: which it was.");
        EDGES.full().changes("mark(2, 9)", 0, "MARKS").changes("mark(2, 9)", 9);
        EDGES.sentence(31, "A number in a GROUP (0 to 3) at 0 to 5: which it was.");
        EDGES.full().changes("put(3, 0, 8)", 0, "GROUPS").changes("put(3, 0, 8)", 8);
    }

    private static void trees() {
        EDGES.sentence(34, "A NODE hangs on another one with a delay: the one it hung on.");
        EDGES.full().changes("hang(9, 8, 100)", 5, NODES, DELAYS).changes("hang(9, 8, 100)", 8);
        EDGES.sentence(36, "A NODE falls: how many are hung anew.");
        EDGES.full().changes("fall(2)", 3, NODES, DELAYS).changes("fall(9)", 0, NODES, DELAYS);
    }
}
