/** Promises 17 and 18 at their edges: show and best. */
public final class SeeingEdgesTest {
    private static final int NONE = FilmLines.NONE;
    private static final String NO_LINE = "line(0, 59, 0) ";
    private static final Edges EDGES = new Edges();

    public static void main(String[] args) {
        showEdges();
        showOfAStory();
        showFactB();
        showFactL();
        showFactS();
        showFactK();
        showNumbers();
        showFirstClause();
        showLeftOver();
        showBegun();
        showLost();
        showStart();
        showStartOrAll();
        showStill();
        showEndsBehind59();
        showLastSecond();
        showSumOfSeen();
        bestEdges();
        bestMostSeen();
        bestFewestStill();
        bestGreatestSum();
        bestFirstBySizes();
        bestDoors();
        bestNothing();
        bestEndsBehind59();
        bestWithoutTheRule();
        bestOfAllRows();
        EDGES.end("SeeingEdgesTest");
    }

    // ---- promise 17

    private static void showEdges() {
        EDGES.sentence(17, "10 to 17 the SIZE of a PIECE (NONE: not begun). OUTSIDE.");
        for (String calls : new String[] {"", Edges.STORY}) {
            Run run = EDGES.behind(calls);
            for (int what : new int[] {Integer.MIN_VALUE, -1, 4, 5, 9, 18, 19, Integer.MAX_VALUE}) run.still("show(" + what + ")", FilmLines.OUTSIDE);
        }
        EDGES.fresh().still("show(0)", 8).still("show(1)", 0).still("show(2)", 0).still("show(3)", 7).still("show(10)", 0).still("show(17)", 0);
    }

    private static void showOfAStory() {
        EDGES.sentence(17, "THE SHOW by THE RULE");
        EDGES.full().row("show", 7, 0, 10, 8, 1, 1, 1, 2, 2, 2, 1, NONE);
    }

    private static void showFactB() {
        EDGES.sentence(17, "b as it is by then in this second, not less by what is seen at its end");
        EDGES.behind("set(2, 1)").rule("b>0:1;0").row("show", 8, 0, 7, 7, 0, 1, 1, 1, 1, 1, 1, 1);
        EDGES.behind("set(2, 1)").rule("b<1:0;1").row("show", 8, 0, 7, 7, 0, 1, 1, 1, 1, 1, 1, 1);
        EDGES.behind("set(2, 1)").rule("b>1:1;0").row("show", 8, 0, 5, 7, 0, 0, 0, 1, 1, 1, 1, 1);
        EDGES.behind("set(2, 1)").rule("b<2:0;1").row("show", 8, 0, 5, 7, 0, 0, 0, 1, 1, 1, 1, 1);
        // None is seen ahead of START, so b grows up to the last.
        EDGES.behind("set(2, 8) line(0, 59, 1000)").rule("b>6:2;b>5:1;0").row("show", 8, 0, 3, 7, 0, 0, 0, 0, 0, 0, 1, 2);
        EDGES.behind("set(2, 8) line(0, 59, 1000)").rule("b<7:0;2").row("show", 8, 0, 2, 7, 0, 0, 0, 0, 0, 0, 0, 2);
    }

    private static void showFactL() {
        EDGES.sentence(17, "l bits of the LINE in the second ahead (0 in second 0)");
        EDGES.fresh().rule("l<1:0;1").row("show", 8, 0, 6, 7, 0, 0, 1, 1, 1, 1, 1, 1);
        EDGES.fresh().rule("l>0:1;0").row("show", 8, 0, 6, 7, 0, 0, 1, 1, 1, 1, 1, 1);
        EDGES.fresh().rule("l>39:1;0").row("show", 8, 0, 6, 7, 0, 0, 1, 1, 1, 1, 1, 1);
        EDGES.fresh().rule("l>40:1;0").row("show", 8, 0, 0, 7, 0, 0, 0, 0, 0, 0, 0, 0);
        EDGES.fresh().rule("l<41:1;0").row("show", 8, 0, 8, 8, 1, 1, 1, 1, 1, 1, 1, 1);
        EDGES.fresh().rule("l<40:1;0").row("show", 8, 0, 1, 8, 1, 0, 0, 0, 0, 0, 0, 0);
        EDGES.fresh().rule("l<0:2;0").due("show(2)", 0).rule("b<0:2;0").due("show(2)", 0).rule("k<0:2;0").due("show(2)", 0);
        // The second ahead alone counts, not this one and none farther off.
        EDGES.behind(NO_LINE + "line(3, 3, 20) line(5, 5, 20)").rule("l>0:2;0").row("show", 2, 53, 0, NONE, 0, 0, NONE);
        EDGES.behind("line(0, 59, 20) line(3, 3, 21)").rule("l>20:2;0").row("show", 8, 2, 2, 10, 0, 0, 0, 0, 0, 2, 0, 0);
    }

    private static void showFactS() {
        EDGES.sentence(17, "s the SIZE now");
        EDGES.fresh().rule("s<1:1;s<2:2;0").row("show", 8, 0, 9, 9, 1, 2, 0, 1, 2, 0, 1, 2);
        EDGES.fresh().rule("s>1:0;s>0:2;1").row("show", 8, 0, 9, 9, 1, 2, 0, 1, 2, 0, 1, 2);
        EDGES.behind("doors(251)").rule("s<1:1;s<2:2;0").row("show", 8, 1, 9, 10, 1, 2, 2, 0, 1, 2, 0, 1);
        EDGES.fresh().rule("s<3:0;2").due("show(2)", 0).rule("s>2:2;0").due("show(2)", 0).rule("s<0:2;0").due("show(2)", 0);
    }

    private static void showFactK() {
        EDGES.sentence(17, "k the number of the PIECE");
        for (int k = 0; k <= 8; k++) {
            Run below = EDGES.behind("line(0, 59, 1000)").rule("k<" + k + ":2;1");
            Run above = EDGES.behind("line(0, 59, 1000)").rule("k>" + k + ":2;1");
            for (int piece = 0; piece < 8; piece++) {
                below.due("show(" + (10 + piece) + ")", piece < k ? 2 : 1);
                above.due("show(" + (10 + piece) + ")", piece > k ? 2 : 1);
            }
        }
    }

    private static void showNumbers() {
        EDGES.sentence(17, "a number of 1 to 3 digits");
        EDGES.behind("bits(0, 0, 1000) line(0, 59, 1000)").rule("l>999:2;0").row("show", 8, 0, 14, 8, 0, 2, 2, 2, 2, 2, 2, 2);
        EDGES.behind("bits(0, 0, 999) bits(1, 0, 1) line(0, 59, 999) line(0, 0, 1000)").rule("l>999:2;0").row("show", 8, 0, 12, 7, 0, 0, 2, 2, 2, 2, 2, 2);
        EDGES.behind("bits(0, 0, 999) line(0, 59, 999)").rule("l>999:2;0").row("show", 8, 0, 0, 8, 0, 0, 0, 0, 0, 0, 0, 0);
        EDGES.behind("bits(0, 0, 998) line(0, 59, 998)").rule("l<999:2;0").row("show", 8, 0, 16, 7, 2, 2, 2, 2, 2, 2, 2, 2);
        EDGES.behind("line(0, 59, 999)").rule("l>000:0;l<999:2;0").row("show", 8, 0, 16, 7, 2, 2, 2, 2, 2, 2, 2, 2);
        EDGES.behind("line(0, 59, 20)").rule("l>019:1;0").row("show", 8, 5, 7, 14, 0, 1, 1, 1, 1, 1, 1, 1);
        EDGES.behind("line(0, 59, 20)").rule("l<21:0;2").due("show(2)", 0).rule("l<020:0;2").due("show(11)", 2).rule("l>2:1;0").due("show(11)", 1);
    }

    private static void showFirstClause() {
        EDGES.sentence(17, "of the first CLAUSE that is so the SIZE, else the last one.");
        EDGES.behind("line(0, 59, 1000)").rule("k<3:1;k<5:2;0").row("show", 8, 0, 7, 7, 1, 1, 1, 2, 2, 0, 0, 0);
        EDGES.behind("line(0, 59, 1000)").rule("k<5:2;k<3:1;0").row("show", 8, 0, 10, 7, 2, 2, 2, 2, 2, 0, 0, 0);
        EDGES.behind("line(0, 59, 1000)").rule("k>7:2;1").row("show", 8, 0, 8, 7, 1, 1, 1, 1, 1, 1, 1, 1);
    }

    private static void showLeftOver() {
        EDGES.sentence(17, "(what is left over in a second goes on to the next PIECE;");
        EDGES.behind(NO_LINE + "line(0, 0, 160)").row("show", 8, 0, 0, 7, 0, 0, 0, 0, 0, 0, 0, 0);
        EDGES.behind(NO_LINE + "line(0, 0, 159)").row("show", 7, 53, 0, NONE, 0, 0, 0, 0, 0, 0, 0, 0);
        EDGES.behind(NO_LINE + "line(0, 0, 159) line(7, 7, 1)").row("show", 8, 0, 0, 7, 0, 0, 0, 0, 0, 0, 0, 0);
        EDGES.behind(NO_LINE + "line(0, 0, 159) line(8, 8, 1)").row("show", 8, 1, 0, 8, 0, 0, 0, 0, 0, 0, 0, 0);
    }

    private static void showBegun() {
        EDGES.sentence(17, "(NONE: not begun)");
        EDGES.behind(NO_LINE + "line(0, 0, 141)").row("show", 7, 53, 0, NONE, 0, 0, 0, 0, 0, 0, 0, 0);
        EDGES.behind(NO_LINE + "line(0, 0, 140)").row("show", 7, 53, 0, NONE, 0, 0, 0, 0, 0, 0, 0, NONE);
        EDGES.behind(NO_LINE + "line(59, 59, 1)").row("show", 0, 0, 0, NONE, 0, NONE, NONE, NONE, NONE, NONE, NONE, NONE);
        EDGES.behind(NO_LINE).row("show", 0, 0, 0, NONE, NONE, NONE, NONE, NONE, NONE, NONE, NONE, NONE);
        EDGES.sentence(17, "which SIZE it has is picked when it is begun");
        // The first two take all of second 0: the third is begun in second 1, with one that waits and l 40.
        EDGES.fresh().rule("l>39:2;b>1:1;0").row("show", 8, 5, 12, 12, 0, 0, 2, 2, 2, 2, 2, 2);
        EDGES.behind("line(0, 0, 41)").rule("l>39:2;b>1:1;0").row("show", 8, 4, 11, 11, 0, 0, 1, 2, 2, 2, 2, 2);
    }

    private static void showLost() {
        EDGES.sentence(17, "what comes in behind the last PIECE is lost");
        EDGES.behind("pieces(1) line(0, 59, 1000)").row("show", 1, 0, 0, 0, 0, NONE, NONE, NONE, NONE, NONE, NONE, NONE);
        EDGES.behind("line(0, 59, 1000)").row("show", 8, 0, 0, 7, 0, 0, 0, 0, 0, 0, 0, 0);
    }

    private static void showStart() {
        EDGES.sentence(17, "START, 1 to 8 PIECES, 2 at first");
        for (int start = 1; start <= 8; start++) {
            EDGES.behind("line(0, 59, 20) set(2, " + start + ")").row("show", 8, 0, 0, start + 6);
            // One bit fewer than START PIECES have: none is ever seen.
            Run scarce = EDGES.behind(NO_LINE + "set(2, " + start + ") line(0, 0, " + (20 * start - 1) + ")").row("show", 0, 0, 0, NONE);
            scarce.go("line(0, 0, " + 20 * start + ")").row("show", start, start == 8 ? 0 : 60 - start, 0, start == 8 ? 7 : NONE);
        }
    }

    private static void showStartOrAll() {
        EDGES.sentence(17, "or all, are there whole");
        EDGES.behind("line(0, 59, 20) set(2, 8) pieces(3)").row("show", 3, 0, 0, 4).row("best", 3, 0, 6, 13);
        EDGES.behind("line(0, 59, 20) set(2, 3) pieces(3)").row("show", 3, 0, 0, 4);
        EDGES.behind("line(0, 59, 20) set(2, 4) pieces(3)").row("show", 3, 0, 0, 4);
        EDGES.behind("pieces(1) " + NO_LINE + "line(4, 4, 20)").row("show", 1, 0, 0, 4);
        EDGES.behind("pieces(1) " + NO_LINE + "line(4, 4, 19)").row("show", 0, 0, 0, NONE);
    }

    private static void showStill() {
        EDGES.sentence(17, "if none waits and not all are seen: a STILL second.");
        EDGES.behind("line(0, 59, 10) set(2, 1)").row("show", 8, 7, 0, 15);
        EDGES.behind(NO_LINE + "line(0, 0, 40)").row("show", 2, 58, 0, NONE, 0, 0, NONE);
        EDGES.behind(NO_LINE + "line(58, 58, 40)").row("show", 2, 0, 0, NONE, 0, 0, NONE);
        EDGES.behind(NO_LINE + "line(57, 57, 40)").row("show", 2, 1, 0, NONE, 0, 0, NONE);
        EDGES.behind(NO_LINE + "line(0, 0, 40) pieces(2)").row("show", 2, 0, 0, 1, 0, 0, NONE);
        EDGES.behind(NO_LINE + "line(0, 0, 39)").row("show", 0, 0, 0, NONE, 0, 0, NONE);
        // Each SHOW counts anew.
        EDGES.behind("line(0, 59, 10) set(2, 1)").row("show", 8, 7, 0, 15).go("pieces(7)").row("show", 7, 6, 0, 13).go("pieces(8)").row("show", 8, 7, 0, 15)
            .row("best", 8, 7, 2, 21).go("pieces(7)").row("best", 7, 6, 2, 19).go("line(0, 59, 0)").row("show", 0, 0, 0, NONE).row("best", 0, 0, 0, NONE);
    }

    private static void showEndsBehind59() {
        EDGES.sentence(17, "It ends as all are seen, or behind second 59.");
        EDGES.behind(NO_LINE + "line(52, 52, 1000)").row("show", 8, 0, 0, 59, 0, 0, 0, 0, 0, 0, 0, 0);
        EDGES.behind(NO_LINE + "line(53, 53, 1000)").row("show", 7, 0, 0, NONE, 0, 0, 0, 0, 0, 0, 0, 0);
        EDGES.behind(NO_LINE + "line(59, 59, 1000)").row("show", 1, 0, 0, NONE, 0, 0, 0, 0, 0, 0, 0, 0);
        EDGES.behind("pieces(1) " + NO_LINE + "line(59, 59, 20)").row("show", 1, 0, 0, 59);
        // All are seen in second 7: what the LINE does behind that does not matter.
        EDGES.behind("line(8, 59, 0)").row("show", 8, 0, 0, 7);
    }

    private static void showLastSecond() {
        EDGES.sentence(17, "3 the second in which the last one was seen (NONE)");
        EDGES.behind("line(0, 59, 1)").row("show", 3, 18, 0, NONE);
        EDGES.behind("line(0, 59, 1) pieces(3)").row("show", 3, 18, 0, 59);
        EDGES.behind("pieces(1) line(0, 59, 20)").row("show", 1, 0, 0, 0);
        EDGES.behind(NO_LINE).row("show", 0, 0, 0, NONE);
    }

    private static void showSumOfSeen() {
        EDGES.sentence(17, "2 the sum of SIZES seen");
        // The third, of SIZE 2, is begun or whole, and not seen.
        EDGES.behind(NO_LINE + "line(0, 0, 61)").rule("k>1:2;k>0:1;0").row("show", 2, 58, 1, NONE, 0, 1, 2, NONE);
        EDGES.behind(NO_LINE + "line(58, 58, 300)").rule("k>1:2;k>0:1;0").row("show", 2, 0, 1, NONE, 0, 1, 2, 2, 2, NONE);
        EDGES.behind("line(0, 59, 1000)").rule("2").row("show", 8, 0, 16, 7);
    }

    // ---- promise 18

    private static void bestEdges() {
        EDGES.sentence(18, "BEST, likewise. OUTSIDE.");
        for (String calls : new String[] {"", Edges.STORY}) {
            Run run = EDGES.behind(calls);
            for (int what : new int[] {Integer.MIN_VALUE, -1, 4, 5, 9, 18, 19, Integer.MAX_VALUE}) run.still("best(" + what + ")", FilmLines.OUTSIDE);
        }
        EDGES.behind("pieces(1)").still("best(0)", 1).still("best(1)", 0).still("best(2)", 2).still("best(3)", 1).still("best(10)", 2).still("best(11)", NONE).still("best(17)", NONE);
    }

    private static void bestMostSeen() {
        EDGES.sentence(18, "the SHOW with the most PIECES seen");
        // A SIZE 1 first would never begin, with no STILL second at all.
        EDGES.behind(NO_LINE + "line(0, 0, 40)").row("best", 2, 58, 0, NONE, 0, 0, NONE, NONE, NONE, NONE, NONE, NONE);
        EDGES.behind(NO_LINE + "line(0, 0, 160)").row("best", 8, 0, 0, 7, 0, 0, 0, 0, 0, 0, 0, 0);
        EDGES.behind(NO_LINE + "line(0, 0, 179)").row("best", 8, 0, 0, 7, 0, 0, 0, 0, 0, 0, 0, 0);
        EDGES.behind(NO_LINE + "line(0, 0, 180)").row("best", 8, 0, 1, 7, 0, 0, 0, 0, 0, 0, 0, 1);
    }

    private static void bestFewestStill() {
        EDGES.sentence(18, "then the fewest STILL seconds");
        EDGES.behind("line(0, 59, 20) set(2, 1)").row("best", 8, 0, 2, 10, 2, 0, 0, 0, 0, 0, 0, 0);
        EDGES.behind("line(0, 59, 10) set(2, 1) pieces(2)").row("best", 2, 1, 2, 9, 2, 0);
        EDGES.behind("line(0, 59, 10) set(2, 1) pieces(2) bits(1, 0, 10)").row("best", 2, 0, 2, 8, 2, 0);
    }

    private static void bestGreatestSum() {
        EDGES.sentence(18, "then the greatest sum of SIZES seen");
        EDGES.behind("set(2, 1) line(0, 59, 80)").row("best", 8, 0, 16, 7, 2, 2, 2, 2, 2, 2, 2, 2);
        EDGES.behind("pieces(1) " + NO_LINE + "line(0, 0, 80)").row("best", 1, 0, 2, 0, 2);
        EDGES.behind("pieces(1) " + NO_LINE + "line(0, 0, 79)").row("best", 1, 0, 1, 0, 1);
        EDGES.behind("pieces(1) " + NO_LINE + "line(0, 0, 39)").row("best", 1, 0, 0, 0, 0);
        EDGES.behind("pieces(1) " + NO_LINE + "line(0, 0, 19)").row("best", 0, 0, 0, NONE, 0);
        // SIZES of what is not seen do not count: of two seen the first of those with the sum 4 has 0 behind them.
        EDGES.behind(NO_LINE + "line(58, 58, 1000)").row("best", 2, 0, 4, NONE, 2, 2, 0, 0, 0, 0, 0, 0);
    }

    private static void bestFirstBySizes() {
        EDGES.sentence(18, "then the first by SIZES of PIECES.");
        EDGES.behind("pieces(3) set(2, 3) " + NO_LINE + "line(0, 0, 80)").row("best", 3, 0, 1, 2, 0, 0, 1);
        EDGES.behind("pieces(3) set(2, 3) " + NO_LINE + "line(0, 0, 100)").row("best", 3, 0, 2, 2, 0, 1, 1);
        EDGES.behind("pieces(3) set(2, 3) bits(0, 2, 60) bits(1, 2, 60) bits(2, 2, 60) " + NO_LINE + "line(0, 0, 100)").row("best", 3, 0, 2, 2, 0, 0, 2);
    }

    private static void bestDoors() {
        EDGES.sentence(18, "of all rows of SIZES that DOORS allow");
        EDGES.behind("doors(0) " + NO_LINE + "line(0, 0, 319)").row("best", 8, 0, 0, 7, 0, 0, 0, 0, 0, 0, 0, 0);
        EDGES.behind("doors(0) " + NO_LINE + "line(0, 0, 320)").row("best", 8, 0, 8, 7, 1, 1, 1, 1, 1, 1, 1, 1);
        EDGES.behind("doors(128) " + NO_LINE + "line(0, 0, 319)").row("best", 8, 0, 7, 7, 1, 1, 1, 1, 1, 1, 1, 0);
        EDGES.behind("doors(2) " + NO_LINE + "line(0, 0, 319)").row("best", 8, 0, 7, 7, 0, 1, 1, 1, 1, 1, 1, 1);
        EDGES.behind("doors(1) " + NO_LINE + "line(0, 0, 319)").row("best", 8, 0, 0, 7, 0, 0, 0, 0, 0, 0, 0, 0);
    }

    private static void bestNothing() {
        EDGES.sentence(18, "(NONE: not begun)");
        EDGES.behind(NO_LINE).row("best", 0, 0, 0, NONE, NONE, NONE, NONE, NONE, NONE, NONE, NONE, NONE);
        EDGES.behind(NO_LINE + "line(59, 59, 1)").row("best", 0, 0, 0, NONE, 0, NONE, NONE, NONE, NONE, NONE, NONE, NONE);
        EDGES.behind(NO_LINE + "line(0, 0, 41)").row("best", 2, 58, 0, NONE, 0, 0, 0, NONE, NONE, NONE, NONE, NONE);
        // Nothing is left of what was BEST ahead of a change.
        for (int bits : new int[] {10, 40, 1000}) {
            EDGES.behind("set(2, 1) line(0, 59, " + bits + ")").due("best(0)", 8).go(NO_LINE + "line(59, 59, 1)").row("best", 0, 0, 0, NONE, 0, NONE)
                .go(NO_LINE).row("best", 0, 0, 0, NONE, NONE, NONE);
        }
        EDGES.behind(NO_LINE + "line(59, 59, 40)").row("best", 1, 0, 0, NONE, 0, 0, NONE, NONE, NONE, NONE, NONE, NONE);
        EDGES.behind(NO_LINE + "line(59, 59, 41)").row("best", 1, 0, 0, NONE, 0, 0, 0, NONE, NONE, NONE, NONE, NONE);
        EDGES.behind(NO_LINE + "line(58, 58, 40) line(59, 59, 20)").row("best", 2, 0, 0, NONE, 0, 0, 0, NONE, NONE, NONE, NONE, NONE);
    }

    private static void bestEndsBehind59() {
        EDGES.sentence(18, "It ends as all are seen, or behind second 59.");
        EDGES.behind(NO_LINE + "line(52, 52, 1000)").row("best", 8, 0, 16, 59, 2, 2, 2, 2, 2, 2, 2, 2);
        EDGES.behind(NO_LINE + "line(53, 53, 1000)").row("best", 7, 0, 14, NONE, 2, 2, 2, 2, 2, 2, 2, 0);
        EDGES.behind(NO_LINE + "line(59, 59, 1000)").row("best", 1, 0, 2, NONE, 2, 0, 0, 0, 0, 0, 0, 0);
        EDGES.sentence(18, "3 the second in which the last one was seen (NONE)");
        EDGES.behind("line(0, 59, 1)").row("best", 3, 18, 0, NONE).go("pieces(3)").row("best", 3, 18, 0, 59);
    }

    /** Lines at which PIECES come late, early and in bursts, held against all rows, tried one by one. */
    private static void bestOfAllRows() {
        EDGES.sentence(18, "of all rows of SIZES that DOORS allow the SHOW with the most PIECES seen, then the fewest STILL seconds, then the greatest sum of SIZES seen");
        int[][] lines = {{10, 10, 10}, {25, 25, 25}, {40, 9, 40}, {100, 0, 33}, {3, 90, 30}, {0, 55, 2}};
        for (int[] line : lines) {
            for (int start = 1; start <= 8; start++) {
                PlainModel plain = new PlainModel();
                plain.line(0, 3, line[0]);
                plain.line(4, 7, line[1]);
                plain.line(8, 59, line[2]);
                plain.set(2, start);
                plain.doors(255 & ~(1 << start));
                EDGES.behind("line(0, 3, " + line[0] + ") line(4, 7, " + line[1] + ") line(8, 59, " + line[2] + ") set(2, " + start + ") "
                    + "doors(" + plain.doors + ")").row("best", plain.bestShow());
            }
        }
    }

    private static void bestWithoutTheRule() {
        EDGES.sentence(18, "BEST: of all rows of SIZES that DOORS allow");
        EDGES.fresh().row("best", 8, 0, 11, 10).rule("0").row("best", 8, 0, 11, 10).rule("2").row("best", 8, 0, 11, 10).says("1!").row("best", 8, 0, 11, 10);
    }
}
