/** Promises 34 to 38: hang, behind, fall, tree, told. */
public final class TreesTest {
    private static final Check CHECK = new Check();

    public static void main(String[] args) {
        hang();
        hangOrder();
        behind();
        fallToLeastBehind();
        fallWhenAllAreFull();
        fallOneOnAnother();
        fallRefusals();
        tree();
        told();
        CHECK.end("TreesTest");
    }

    private static void hang() {
        FilmLines x = new FilmLines();
        CHECK.due("full", x.hang(9, 3, 1), FilmLines.FULL);
        CHECK.due("on its own: others count alone", x.hang(8, 3, 100), 3);
        CHECK.due("its delay", x.behind(8), 120);
        CHECK.due("on another", x.hang(9, 5, 1), 4);
        CHECK.due("from there", x.hang(9, 6, 7), 5);
        CHECK.due("its delay now", x.behind(9), 27);
        x.fall(7);
        CHECK.due("a fallen one leaves its place", x.hang(9, 3, 1), 6);
    }

    private static void hangOrder() {
        FilmLines x = new FilmLines();
        CHECK.due("node 10", x.hang(10, 0, 0), FilmLines.UNKNOWN);
        CHECK.due("on -1", x.hang(1, -1, 0), FilmLines.UNKNOWN);
        CHECK.due("delay 0", x.hang(1, 2, 0), FilmLines.OUTSIDE);
        CHECK.due("delay 101", x.hang(1, 0, 101), FilmLines.OUTSIDE);
        CHECK.due("on itself", x.hang(3, 3, 1), FilmLines.NO);
        CHECK.due("on one behind it", x.hang(5, 6, 1), FilmLines.NO);
        CHECK.due("node 0", x.hang(0, 0, 1), FilmLines.NO);
        CHECK.due("no ahead of full", x.hang(1, 2, 1), FilmLines.NO);
        CHECK.due("full", x.hang(7, 2, 1), FilmLines.FULL);
        x.fall(4);
        CHECK.due("outside ahead of state", x.hang(4, 0, 0), FilmLines.OUTSIDE);
        CHECK.due("it is fallen", x.hang(4, 0, 1), FilmLines.STATE);
        CHECK.due("the other is fallen", x.hang(5, 4, 1), FilmLines.STATE);
        CHECK.due("state ahead of no", x.hang(3, 4, 1), FilmLines.STATE);
        for (int node = 1; node < 4; node++) CHECK.due("refused ones changed nothing", x.tree(10 + node), (node - 1) / 2);
    }

    private static void behind() {
        FilmLines x = new FilmLines();
        CHECK.due("node 0", x.behind(0), 0);
        CHECK.due("node 9", x.behind(9), 30);
        CHECK.due("hang 1 anew", x.hang(1, 0, 100), 0);
        CHECK.due("what hangs below", x.behind(9), 120);
        CHECK.due("node 10", x.behind(10), FilmLines.UNKNOWN);
        CHECK.due("node -1", x.behind(-1), FilmLines.UNKNOWN);
        x.fall(9);
        CHECK.due("fallen", x.behind(9), FilmLines.STATE);
    }

    private static void fallToLeastBehind() {
        FilmLines x = new FilmLines();
        CHECK.due("fall of 3", x.fall(3), 2);
        CHECK.due("7: 1 has the place of 3", x.tree(17), 1);
        CHECK.due("8: 0, 1, 2 are full; of 4, 5, 6 as far behind the first", x.tree(18), 4);
        CHECK.due("their delays stay", x.behind(8), 30);
        CHECK.due("a fall with none below", x.fall(7), 0);
        CHECK.due("6 goes to 1", x.hang(6, 1, 1), 2);
        CHECK.due("fall of 4", x.fall(4), 2);
        CHECK.due("8: on 1", x.tree(18), 1);
        CHECK.due("9: 1 is full then, so on 2", x.tree(19), 2);
        FilmLines y = new FilmLines();
        y.hang(6, 2, 1);
        y.hang(8, 3, 77);
        CHECK.due("fall of 3", y.fall(3), 2);
        CHECK.due("8: 6 is less behind than 4 and 5", y.tree(18), 6);
        CHECK.due("8 is behind", y.behind(8), 88);
    }

    private static void fallWhenAllAreFull() {
        FilmLines x = new FilmLines();
        x.set(6, 1);
        CHECK.due("fall of 2", x.fall(2), 2);
        CHECK.due("5: no room on 0, 1, 3; 4 has node 9: none, so 0", x.tree(15), 0);
        CHECK.due("6: on 5, which has none", x.tree(16), 5);
        CHECK.due("6 is behind", x.behind(6), 20);
    }

    /** What was hung anew is not below the fallen one any more. */
    private static void fallOneOnAnother() {
        FilmLines x = new FilmLines();
        x.set(6, 9);
        for (int node = 2; node < 10; node++) x.hang(node, 1, 5);
        x.set(6, 1);
        CHECK.due("fall of 1", x.fall(1), 8);
        for (int node = 2; node < 10; node++) CHECK.due("a chain", x.tree(10 + node), node == 2 ? 0 : node - 1);
        CHECK.due("the end of it", x.behind(9), 40);
    }

    private static void fallRefusals() {
        FilmLines x = new FilmLines();
        CHECK.due("node 0", x.fall(0), FilmLines.NO);
        CHECK.due("node 10", x.fall(10), FilmLines.UNKNOWN);
        CHECK.due("node -1", x.fall(-1), FilmLines.UNKNOWN);
        CHECK.due("all stand", x.tree(0), 1023);
        for (int node = 9; node > 0; node--) CHECK.due("fall " + node, x.fall(node), 0);
        for (int node = 9; node > 0; node--) CHECK.due("fall again " + node, x.fall(node), FilmLines.STATE);
        CHECK.due("one stands", x.tree(0), 1);
    }

    private static void tree() {
        FilmLines x = new FilmLines();
        CHECK.due("within 30", x.tree(1), 1023);
        x.set(5, 29);
        CHECK.due("within 29", x.tree(1), 127);
        x.set(5, 10);
        CHECK.due("within 10", x.tree(1), 7);
        x.set(5, 0);
        CHECK.due("within 0", x.tree(1), 1);
        x.set(5, 1000);
        x.fall(9);
        CHECK.due("a fallen one is not within", x.tree(1), 511);
        CHECK.due("a fallen one does not stand", x.tree(0), 511);
        CHECK.due("0 hangs on none", x.tree(10), FilmLines.NONE);
        CHECK.due("a fallen one hangs on none", x.tree(19), FilmLines.NONE);
        CHECK.due("8 hangs on 3", x.tree(18), 3);
        for (int what : new int[] {-1, 2, 9, 20}) CHECK.due("tree " + what, x.tree(what), FilmLines.OUTSIDE);
    }

    private static void told() {
        FilmLines x = new FilmLines();
        x.frame();
        x.frame();
        x.frame();
        for (int dot = 0; dot < 16; dot++) x.dot(1, dot, 9);
        for (int dot = 0; dot < 16; dot++) x.dot(2, dot, 9);
        x.say('b');
        x.say('>');
        x.right(0, 0, 0, 0, 1);
        x.pieces(5);
        x.doors(77);
        int[] want = {3, 2, 4, 2, 1, 5, 77};
        for (int what = 0; what < want.length; what++) CHECK.due("told " + what, x.told(what), want[what]);
        CHECK.due("told 7", x.told(7), FilmLines.OUTSIDE);
        CHECK.due("told -1", x.told(-1), FilmLines.OUTSIDE);
    }
}
