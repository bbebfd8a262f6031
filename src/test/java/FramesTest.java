/** Promises 2 to 8: frame, dot, key, set, way, opened, of. */
public final class FramesTest {
    private static final Check CHECK = new Check();

    public static void main(String[] args) {
        frame();
        dot();
        key();
        set();
        wayMoves();
        wayTies();
        wayFewestBits();
        opened();
        of();
        cutFollowsChanges();
        CHECK.end("FramesTest");
    }

    private static void fill(FilmLines x, int frame, int... dots) {
        for (int i = 0; i < dots.length; i++) x.dot(frame, i, dots[i]);
    }

    private static int[] ways(FilmLines x, int frame) {
        return new int[] {x.way(frame, 0), x.way(frame, 1), x.way(frame, 2), x.way(frame, 3)};
    }

    private static int[] openedDots(FilmLines x, int frame) {
        int[] dots = new int[16];
        for (int i = 0; i < 16; i++) dots[i] = x.opened(frame, i);
        return dots;
    }

    private static void frame() {
        FilmLines x = new FilmLines();
        for (int i = 0; i < 10; i++) {
            CHECK.due("frame " + i, x.frame(), i);
            CHECK.due("told(0)", x.told(0), i + 1);
        }
        CHECK.due("frame 10", x.frame(), FilmLines.FULL);
        CHECK.due("told(0) when full", x.told(0), 10);
        CHECK.due("dot of a new frame", x.dot(9, 15, 0), 0);
    }

    private static void dot() {
        FilmLines x = new FilmLines();
        CHECK.due("dot without frames", x.dot(0, 0, 0), FilmLines.UNKNOWN);
        x.frame();
        CHECK.due("dot", x.dot(0, 15, 15), 0);
        CHECK.due("dot again", x.dot(0, 15, 3), 15);
        CHECK.due("dot -1", x.dot(0, -1, 3), FilmLines.OUTSIDE);
        CHECK.due("dot 16", x.dot(0, 16, 3), FilmLines.OUTSIDE);
        CHECK.due("dot to 16", x.dot(0, 15, 16), FilmLines.OUTSIDE);
        CHECK.due("dot to -1", x.dot(0, 15, -1), FilmLines.OUTSIDE);
        CHECK.due("dot of frame -1", x.dot(-1, 0, 0), FilmLines.UNKNOWN);
        CHECK.due("unknown ahead of outside", x.dot(1, 16, 16), FilmLines.UNKNOWN);
        CHECK.due("refused ones changed nothing", x.dot(0, 15, 0), 3);
    }

    private static void key() {
        FilmLines x = new FilmLines();
        CHECK.due("key of none", x.key(0, true), FilmLines.UNKNOWN);
        x.frame();
        x.frame();
        CHECK.due("key of 0", x.key(0, true), FilmLines.NO);
        CHECK.due("key of 0, not", x.key(0, false), FilmLines.NO);
        CHECK.due("key of 1", x.key(1, true), 0);
        CHECK.due("a key has no way as it was", x.way(1, 0), 9);
        CHECK.due("key of 1 no more", x.key(1, false), 1);
        CHECK.due("as it was again", x.way(1, 0), 4);
        CHECK.due("key of 1, still not", x.key(1, false), 0);
        CHECK.due("key of 2", x.key(2, true), FilmLines.UNKNOWN);
        CHECK.due("key of -1", x.key(-1, true), FilmLines.UNKNOWN);
    }

    private static void set() {
        int[] least = {0, 0, 1, 0, 0, 0, 1};
        int[] most = {80, 240, 8, 100, 60, 1000, 9};
        FilmLines x = new FilmLines();
        for (int which = 0; which < 7; which++) {
            CHECK.due("set below " + which, x.set(which, least[which] - 1), FilmLines.OUTSIDE);
            CHECK.due("set above " + which, x.set(which, most[which] + 1), FilmLines.OUTSIDE);
            x.set(which, least[which]);
            CHECK.due("set least " + which, x.set(which, most[which]), least[which]);
            CHECK.due("set most " + which, x.set(which, most[which]), most[which]);
        }
        CHECK.due("set 7", x.set(7, 1), FilmLines.OUTSIDE);
        CHECK.due("set -1", x.set(-1, 1), FilmLines.OUTSIDE);
    }

    /** Each of the nine moves of a picture whose dots all differ, with the rim taken for what lies without. */
    private static void wayMoves() {
        for (int way = 0; way < 9; way++) {
            FilmLines x = new FilmLines();
            x.set(0, 80);
            x.frame();
            x.frame();
            for (int dot = 0; dot < 16; dot++) {
                x.dot(0, dot, dot);
                int row = Math.max(0, Math.min(3, dot / 4 + way / 3 - 1));
                int column = Math.max(0, Math.min(3, dot % 4 + way % 3 - 1));
                x.dot(1, dot, row * 4 + column);
            }
            // Moved over a corner its block is all one shade: the mean tells that with fewer bits.
            int[] ways = {way, way, way, way};
            if (way % 2 == 0 && way != 4) ways[way / 6 * 2 + way % 6 / 2] = 9;
            CHECK.dueAll("ways moved by " + way, ways(x, 1), ways);
            CHECK.due("bits moved by " + way, x.of(1, 0), way == 4 ? 4 : way % 2 == 0 ? 23 : 24);
            CHECK.due("loss moved by " + way, x.of(1, 1), 0);
            for (int dot = 0; dot < 16; dot++) CHECK.due("opened by " + way, x.opened(1, dot), x.dot(1, dot, 0));
        }
    }

    private static void wayTies() {
        FilmLines x = new FilmLines();
        x.frame();
        x.frame();
        CHECK.due("frame 1 is a still", x.of(1, 4), 1);
        CHECK.dueAll("all alike: the fewest bits", ways(x, 0), 9, 9, 9, 9);
        CHECK.dueAll("as it was has the fewest bits", ways(x, 1), 4, 4, 4, 4);
        fill(x, 0, 7, 7, 7, 7, 7, 7, 7, 7, 7, 7, 7, 7, 7, 7, 7, 7);
        fill(x, 1, 0, 0, 1, 1, 0, 0, 1, 1, 2, 2, 3, 3, 2, 2, 3, 3);
        CHECK.dueAll("mean at 5 bits ahead of own at 20", ways(x, 1), 9, 9, 9, 9);
        x.set(0, 8);
        CHECK.dueAll("one mean: where it helps most", ways(x, 1), 9, 4, 4, 4);
        fill(x, 1, 0, 0, 0, 0, 0, 0, 0, 0, 0, 0, 0, 0, 0, 0, 0, 0);
        CHECK.dueAll("equals: the first by ways, so 4 ahead of 9", ways(x, 1), 4, 4, 4, 9);
        x.set(0, 12);
        CHECK.dueAll("two means", ways(x, 1), 4, 4, 9, 9);
    }

    private static void wayFewestBits() {
        FilmLines x = new FilmLines();
        x.frame();
        x.frame();
        fill(x, 0, 15, 0, 1, 2, 3, 4, 5, 6, 7, 8, 9, 10, 11, 12, 13, 14);
        fill(x, 1, 0, 15, 15, 0);
        x.set(0, 0);
        CHECK.dueAll("a key with no bits", ways(x, 0), 9, 9, 9, 9);
        CHECK.due("its bits", x.of(0, 0), 20);
        CHECK.dueAll("no key with no bits", ways(x, 1), 4, 4, 4, 4);
        CHECK.due("its bits", x.of(1, 0), 4);
        x.set(0, 19);
        CHECK.dueAll("a key with too few", ways(x, 0), 9, 9, 9, 9);
        x.set(0, 35);
        CHECK.due("bits with one own", x.of(0, 0), 35);
        x.set(0, 80);
        CHECK.dueAll("all own", ways(x, 0), 10, 10, 10, 10);
        CHECK.due("no loss", x.of(0, 1), 0);
        CHECK.due("way of block 4", x.way(0, 4), FilmLines.UNKNOWN);
        CHECK.due("way of block -1", x.way(0, -1), FilmLines.UNKNOWN);
        CHECK.due("way of frame 2", x.way(2, 0), FilmLines.UNKNOWN);
    }

    private static void opened() {
        FilmLines x = new FilmLines();
        x.frame();
        fill(x, 0, 1, 2, 15, 15, 2, 2, 15, 14, 0, 0, 0, 1, 0, 3, 1, 1);
        CHECK.dueAll("means are cut", openedDots(x, 0), 1, 1, 14, 14, 1, 1, 14, 14, 0, 0, 0, 0, 0, 0, 0, 0);
        CHECK.due("loss", x.of(0, 1), 0 + 1 + 1 + 1 + 1 + 1 + 1 + 0 + 9 + 1 + 1 + 1);
        CHECK.due("opened 16", x.opened(0, 16), FilmLines.OUTSIDE);
        CHECK.due("opened -1", x.opened(0, -1), FilmLines.OUTSIDE);
        CHECK.due("opened of frame 1", x.opened(1, 16), FilmLines.UNKNOWN);
        x.frame();
        fill(x, 1, 1, 1, 14, 14, 1, 1, 14, 14);
        CHECK.dueAll("as the frame ahead as opened, not as it is", ways(x, 1), 4, 4, 4, 4);
        CHECK.due("so no loss", x.of(1, 1), 0);
    }

    private static void of() {
        FilmLines x = new FilmLines();
        CHECK.due("of none", x.of(0, 0), FilmLines.UNKNOWN);
        for (int i = 0; i < 3; i++) x.frame();
        for (int dot = 0; dot < 4; dot++) x.dot(0, dot, 15);
        CHECK.due("unlike of 0", x.of(0, 2), 0);
        CHECK.due("unlike of 1", x.of(1, 2), 60);
        CHECK.due("unlike of 2", x.of(2, 2), 0);
        CHECK.due("scene at its edge", x.of(1, 3), 1);
        CHECK.due("no scene", x.of(2, 3), 0);
        CHECK.due("still", x.of(2, 4), 1);
        CHECK.due("no still", x.of(1, 4), 0);
        CHECK.due("frame 0 is no still", x.of(0, 4), 0);
        x.set(1, 61);
        CHECK.due("no scene any more", x.of(1, 3), 0);
        x.set(1, 0);
        CHECK.due("frame 0 is no scene", x.of(0, 3), 0);
        CHECK.due("a still is a scene then", x.of(2, 3), 1);
        CHECK.due("scenes", x.told(1), 6);
        CHECK.due("stills", x.told(2), 4);
        CHECK.due("of 5", x.of(0, 5), FilmLines.OUTSIDE);
        CHECK.due("of -1", x.of(0, -1), FilmLines.OUTSIDE);
        CHECK.due("of frame 3", x.of(3, 5), FilmLines.UNKNOWN);
        for (int dot = 0; dot < 16; dot++) x.dot(1, dot, 15);
        for (int dot = 0; dot < 16; dot++) x.dot(0, dot, 0);
        x.set(1, 240);
        CHECK.due("the most unlike", x.of(1, 2), 240);
        CHECK.due("no stills", x.told(2), 0);
        CHECK.due("a scene of the most", x.told(1), 6);
    }

    private static void cutFollowsChanges() {
        FilmLines x = new FilmLines();
        x.frame();
        x.frame();
        x.frame();
        CHECK.due("at first", x.opened(2, 0), 0);
        x.set(0, 80);
        x.dot(0, 0, 8);
        x.dot(1, 0, 8);
        x.dot(2, 0, 8);
        CHECK.due("a changed dot ahead is seen behind", x.of(2, 0), 4);
        x.dot(0, 0, 0);
        CHECK.due("frame 1 needs more", x.of(1, 0), 23);
        CHECK.due("frame 2 is as 1", x.of(2, 0), 4);
        x.set(0, 4);
        CHECK.due("fewer bits: as 0 was", x.opened(2, 0), 0);
        CHECK.due("loss by that", x.of(2, 1), 64);
    }
}
