/** Promises 9 to 18 at their edges: pieces, bits, doors, line, say, wipe, fault, rule, show, best. */
public final class ShowEdgesTest {
    private static final int OUTSIDE = FilmLines.OUTSIDE, FULL = FilmLines.FULL, NO = FilmLines.NO, NONE = FilmLines.NONE;
    private static final String NO_LINE = "line(0, 59, 0) ";
    private static final Edges EDGES = new Edges();

    public static void main(String[] args) {
        piecesEdges();
        piecesCount();
        bitsEdges();
        bitsCount();
        doorsEdges();
        doorsFirstIsOne();
        doorsKeepTheSize();
        lineEdges();
        lineBothEnds();
        sayEdges();
        sayFull();
        wipeSigns();
        faultPlaces();
        faultNone();
        faultDigits();
        faultAtFortySigns();
        faultEverySign();
        ruleRefused();
        ruleEmptiesTheSigns();
        ruleOfFortySigns();
        EDGES.end("ShowEdgesTest");
    }

    // ---- promise 9

    private static void piecesEdges() {
        EDGES.sentence(9, "1 to 8 of them (8 at first)");
        EDGES.full().grid(new Grid("pieces").within(1, 8)).due("pieces(1)", 7).still("told(5)", 1).due("pieces(8)", 1)
            .still("told(5)", 8).due("pieces(8)", 8).still("pieces(0)", OUTSIDE).still("pieces(9)", OUTSIDE).still("told(5)", 8);
    }

    private static void piecesCount() {
        EDGES.sentence(9, "PIECES: how many there were. OUTSIDE.");
        for (int n = 1; n <= 8; n++) {
            Run run = EDGES.behind("pieces(" + n + ")").due("show(0)", n).due("best(0)", n).due("show(3)", n - 1);
            for (int piece = 0; piece < 8; piece++) {
                run.due("show(" + (10 + piece) + ")", piece < n ? 0 : NONE);
                if (piece >= n) run.due("best(" + (10 + piece) + ")", NONE);
            }
        }
        // What is asked ahead of a change is asked anew behind it.
        EDGES.fresh().due("show(0)", 8).due("best(0)", 8).go("pieces(2)").due("show(0)", 2).due("best(0)", 2);
    }

    // ---- promise 10

    private static void bitsEdges() {
        EDGES.sentence(10, "in SIZES 0 to 2: bits of each (1 to 1000;");
        EDGES.full().grid(new Grid("bits").known(0, 7).within(0, 2).within(1, 1000));
        EDGES.sentence(10, "Bits of a PIECE in a SIZE: which they were. UNKNOWN; OUTSIDE.");
        EDGES.full().due("bits(0, 0, 1)", 25).due("bits(0, 0, 1000)", 1).due("bits(0, 0, 1)", 1000)
            .due("bits(7, 2, 1)", 500).due("bits(7, 2, 1000)", 1).due("bits(7, 2, 1)", 1000)
            .due("bits(0, 2, 9)", 80).due("bits(7, 0, 9)", 20).due("bits(6, 2, 9)", 80).due("bits(7, 1, 9)", 40);
    }

    private static void bitsCount() {
        EDGES.sentence(10, "bits of each (1 to 1000; at first 20, 40, 80 by SIZE)");
        Run one = EDGES.behind("pieces(1) bits(0, 0, 1) " + NO_LINE + "line(30, 30, 1)").row("show", 1, 0, 0, 30, 0, NONE);
        one.row("best", 1, 0, 0, 30, 0, NONE).go("bits(0, 0, 2)").row("show", 0, 0, 0, NONE, 0, NONE).row("best", 0, 0, 0, NONE, 0, NONE);
        Run most = EDGES.behind("pieces(1) bits(0, 0, 1000) bits(0, 1, 1000) bits(0, 2, 1000) " + NO_LINE + "line(59, 59, 1000)");
        most.row("show", 1, 0, 0, 59, 0).row("best", 1, 0, 2, 59, 2);
        most.go("line(59, 59, 999)").row("show", 0, 0, 0, NONE, 0).row("best", 0, 0, 0, NONE, 0);
        EDGES.sentence(10, "PIECES 0 to 7 of a film");
        EDGES.behind("pieces(1)").due("bits(7, 2, 3)", 80).go("pieces(8)").due("bits(7, 2, 3)", 3);
    }

    // ---- promise 11

    private static void doorsEdges() {
        EDGES.sentence(11, "DOORS: which they were. OUTSIDE: 0 to 255.");
        EDGES.full().grid(new Grid("doors").within(0, 255)).due("doors(0)", 91).still("told(6)", 0).due("doors(255)", 0)
            .still("told(6)", 255).due("doors(254)", 255).still("told(6)", 254).still("doors(256)", OUTSIDE).still("doors(-1)", OUTSIDE);
    }

    private static void doorsFirstIsOne() {
        EDGES.sentence(11, "at others it stays as it was; the first is always one.");
        EDGES.behind("doors(0)").rule("k<1:2;1").row("show", 8, 5, 16, 15, 2, 2, 2, 2, 2, 2, 2, 2).row("best", 8, 0, 8, 8, 1, 1, 1, 1, 1, 1, 1, 1);
        EDGES.behind("doors(254)").rule("k<1:2;1").row("show", 8, 0, 9, 9, 2, 1, 1, 1, 1, 1, 1, 1);
        EDGES.behind("doors(1)").rule("k<1:2;1").row("show", 8, 5, 16, 15, 2, 2, 2, 2, 2, 2, 2, 2);
    }

    private static void doorsKeepTheSize() {
        EDGES.sentence(11, "PIECES at which the SIZE may change");
        for (int door = 1; door < 8; door++) {
            Run run = EDGES.behind("doors(" + (1 << door) + ") set(2, 8)").rule("k<1:1;0");
            for (int piece = 0; piece < 8; piece++) run.due("show(" + (10 + piece) + ")", piece < door ? 1 : 0);
            Run best = EDGES.behind("doors(" + (1 << door) + ") set(2, 8) bits(7, 2, 1000) bits(7, 1, 1000) " + NO_LINE + "line(58, 58, 1000)");
            for (int piece = 0; piece < 8; piece++) best.due("best(" + (10 + piece) + ")", piece < door ? 2 : 0);
        }
        EDGES.fresh().due("best(2)", 11).go("doors(0)").due("best(2)", 8).due("show(2)", 0);
    }

    // ---- promise 12

    private static void lineEdges() {
        EDGES.sentence(12, "LINE: bits that come in each second 0 to 59 (0 to 1000; 40 at first).");
        EDGES.full().grid(new Grid("line").within(0, 59).upTo(0, 59).within(0, 1000));
        EDGES.sentence(12, "LINE from a second to one (from not above to): 1. OUTSIDE.");
        EDGES.full().still("line(1, 0, 5)", OUTSIDE).still("line(59, 58, 5)", OUTSIDE).still("line(31, 30, 5)", OUTSIDE)
            .due("line(0, 0, 1000)", 1).due("line(59, 59, 0)", 1).due("line(30, 30, 5)", 1).due("line(0, 59, 0)", 1).due("line(0, 59, 1000)", 1);
    }

    /** Seconds from and to are changed, those beside them are not. */
    private static void lineBothEnds() {
        EDGES.sentence(12, "LINE from a second to one (from not above to): 1.");
        String one = "pieces(1) set(2, 1) bits(0, 0, 1) bits(0, 1, 1) bits(0, 2, 1) ";
        for (int second = 0; second < 60; second++) {
            EDGES.behind(one + NO_LINE + "line(" + second + ", " + second + ", 1)").due("show(3)", second).due("best(3)", second);
            int ahead = second - 1, behind = second + 1;
            String others = (ahead >= 0 ? "line(0, " + ahead + ", 0) " : "") + (behind < 60 ? "line(" + behind + ", 59, 0)" : "");
            EDGES.behind(one + others).due("show(3)", second);
            Run last = EDGES.behind("bits(0, 0, 40) bits(0, 1, 40) bits(0, 2, 40) pieces(1) " + others).due("show(3)", second).due("best(3)", second);
            last.go("bits(0, 0, 41)").due("show(3)", NONE);
        }
        EDGES.fresh().due("show(3)", 7).due("best(3)", 10).go("line(0, 9, 0)").due("show(3)", 17).due("best(3)", 20);
    }

    // ---- promise 13

    private static void sayEdges() {
        EDGES.sentence(13, "THE RULE is a text of up to 40 signs (codes 33 to 126)");
        EDGES.full().grid(new Grid("say").within(33, 126)).due("say(33)", 4).due("say(126)", 5).still("told(3)", 5).due("wipe()", 5);
        Run run = EDGES.fresh();
        for (int sign : new int[] {-1, 0, 9, 10, 32, 127, 128, 255, 256, 300, 65536 + 48}) run.still("say(" + sign + ")", OUTSIDE);
        run.due("say(33)", 1);
    }

    private static void sayFull() {
        EDGES.sentence(13, "A sign more: how many. OUTSIDE; FULL.");
        Run run = EDGES.fresh();
        for (int n = 1; n <= 39; n++) run.due("say(98)", n);
        run.due("say(126)", 40).still("say(98)", FULL).still("say(33)", FULL).still("say(126)", FULL).still("told(3)", 40);
        run.still("say(32)", OUTSIDE).still("say(127)", OUTSIDE).due("wipe()", 40).due("say(98)", 1);
    }

    // ---- promise 14

    private static void wipeSigns() {
        EDGES.sentence(14, "Signs go: how many there were.");
        EDGES.fresh().still("wipe()", 0).go("say(48)").due("wipe()", 1).still("told(3)", 0).still("wipe()", 0).still("fault()", 0).still("rule()", NO);
        Run full = EDGES.behind("say(48) ".repeat(40)).due("wipe()", 40).still("told(3)", 0).due("say(50)", 1).due("rule()", 1).due("show(10)", 2);
        full.says("0").due("wipe()", 1).due("show(10)", 2);
    }

    // ---- promise 15

    private static void faultOf(String text, int want) {
        EDGES.fresh().says(text).still("fault()", want).due("rule()", want == NONE ? 1 : NO).due("told(3)", want == NONE ? 0 : text.length());
    }

    private static void faultPlaces() {
        EDGES.sentence(15, "the first place (from 0 on; behind the last sign: their number) at which no sign could make a text go on as it stands.");
        for (String whole : new String[] {"b<1:0;0", "l>22:1;1", "s<333:2;2", "k>0:0;b<99:1;2"}) {
            for (int i = 0; i < whole.length(); i++) faultOf(whole.substring(0, i), i);
            for (int i = 0; i < whole.length(); i++) faultOf(whole.substring(0, i) + "!" + whole.substring(i), i);
            faultOf(whole + "!", whole.length());
            faultOf(whole + ";", whole.length());
            faultOf(whole + "0", whole.length());
        }
        EDGES.sentence(15, "THE FAULT; NONE.");
        faultOf("", 0);
        faultOf("!!", 0);
        faultOf("b!!", 1);
    }

    private static void faultNone() {
        EDGES.sentence(15, "CLAUSES, each a fact");
        for (String text : new String[] {"0", "1", "2", "b<0:0;0", "l>999:2;1", "s<00:1;2", "k>000:0;0", "k>1:0;k>1:0;0"}) faultOf(text, NONE);
    }

    private static void faultDigits() {
        EDGES.sentence(15, "a number of 1 to 3 digits");
        faultOf("b<:0;0", 2);
        faultOf("b<1:0;0", NONE);
        faultOf("b<123:0;0", NONE);
        faultOf("b<1234:0;0", 5);
        faultOf("b<1;0", 3);
        faultOf("b<12;0", 4);
        faultOf("b<123;0", 5);
        faultOf("b<-1:0;0", 2);
    }

    private static void faultAtFortySigns() {
        EDGES.sentence(15, "a text of up to 40 signs");
        faultOf("b<1:0;b<1:0;b<1:0;b<1:0;b<12:0;b<123:0;0", NONE);
        faultOf("b<1:0;b<1:0;b<1:0;b<1:0;b<1:0;b<123:0;0", NONE);
        faultOf("b<1:0;b<1:0;b<1:0;b<1:0;b<1:0;b<1:0;b<1:", 40);
        faultOf("b<1:0;b<1:0;b<1:0;b<1:0;b<12:0;b<123:0;b", 40);
        faultOf("b<1:0;b<1:0;b<1:0;b<1:0;b<12:0;b<123:0;;", 39);
        faultOf("b<1:0;b<1:0;b<1:0;b<1:0;b<1:0;b<123:0;00", 39);
    }

    /** At each kind of place every sign from 33 to 126: which go on, and which do not. */
    private static void faultEverySign() {
        EDGES.sentence(15, "a fact (b seconds of film that wait unseen, l bits of the LINE in the second ahead (0 in second 0), s the SIZE now, k the number of the PIECE), a < or >, a number of 1 to 3 digits, a :, a SIZE, a ; and then a SIZE");
        String[] begun = {"", "b", "b<", "b<1", "b<12", "b<123", "b<1:", "b<1:0", "b<1:0;", "0", "b<1:0;2"};
        String[] goOn = {"blsk012", "<>", "0123456789", "0123456789:", "0123456789:", ":", "012", ";", "blsk012", "", ""};
        for (int i = 0; i < begun.length; i++) {
            for (char sign = 33; sign <= 126; sign++) {
                boolean ends = (begun[i].isEmpty() || begun[i].endsWith(";")) && "012".indexOf(sign) >= 0;
                int next = begun[i].length() + 1;
                int want = goOn[i].indexOf(sign) < 0 ? next - 1 : ends ? NONE : next;
                EDGES.fresh().says(begun[i] + sign).due("fault()", want);
            }
        }
    }

    // ---- promise 16

    private static void ruleRefused() {
        EDGES.sentence(16, "NO: there is a FAULT.");
        EDGES.full().still("rule()", NO).still("fault()", 3).still("told(3)", 3);
        EDGES.fresh().still("rule()", NO).rule("2").still("rule()", NO).due("show(10)", 2).says("1!").still("rule()", NO).due("show(10)", 2);
        EDGES.behind("say(48) say(48)").still("rule()", NO).due("wipe()", 2);
        EDGES.behind("say(98) ".repeat(40)).still("rule()", NO).due("told(3)", 40);
    }

    private static void ruleEmptiesTheSigns() {
        EDGES.sentence(16, "THE RULE is the text (the signs are empty then): 1.");
        EDGES.fresh().says("2").due("rule()", 1).still("told(3)", 0).still("wipe()", 0).still("fault()", 0).due("show(2)", 16)
            .says("1").due("told(3)", 1).due("show(2)", 16).due("rule()", 1).due("show(2)", 8).rule("k<1:2;0").due("show(2)", 2)
            .rule("0").due("show(2)", 0);
    }

    private static void ruleOfFortySigns() {
        EDGES.sentence(16, "THE RULE is a text of up to 40 signs");
        EDGES.fresh().rule("k<1:2;k<2:1;k<3:0;k<4:2;k<05:1;k<006:0;2").due("told(3)", 0)
            .row("show", 8, 1, 10, 10, 2, 1, 0, 2, 1, 0, 2, 2);
        EDGES.fresh().rule("k<1:2;k<2:1;k<3:0;k<4:2;k<005:1;k<6:0;1").row("show", 8, 0, 8, 9, 2, 1, 0, 2, 1, 0, 1, 1);
    }
}
