/** Promises 31 to 33: put, sum, restore. */
public final class GroupsTest {
    private static final Check CHECK = new Check();

    public static void main(String[] args) {
        put();
        sum();
        restoreAll();
        restoreRefusals();
        CHECK.end("GroupsTest");
    }

    private static void put() {
        FilmLines x = new FilmLines();
        CHECK.due("put", x.put(3, 5, 65535), 0);
        CHECK.due("put again", x.put(3, 5, 1), 65535);
        CHECK.due("group 4", x.put(4, 6, 0), FilmLines.UNKNOWN);
        CHECK.due("group -1", x.put(-1, 0, 0), FilmLines.UNKNOWN);
        CHECK.due("at 6", x.put(3, 6, 0), FilmLines.OUTSIDE);
        CHECK.due("at -1", x.put(3, -1, 0), FilmLines.OUTSIDE);
        CHECK.due("65536", x.put(3, 5, 65536), FilmLines.OUTSIDE);
        CHECK.due("-1", x.put(3, 5, -1), FilmLines.OUTSIDE);
        CHECK.due("refused ones changed nothing", x.put(3, 5, 0), 1);
    }

    private static void sum() {
        FilmLines x = new FilmLines();
        CHECK.due("at first", x.sum(0, 0) + x.sum(0, 1), 0);
        for (int i = 0; i < 6; i++) x.put(1, i, 65535);
        CHECK.due("the most", x.sum(1, 0), 6 * 65535);
        CHECK.due("the most by places", x.sum(1, 1), 21 * 65535);
        for (int i = 0; i < 6; i++) x.put(2, i, 10 + i);
        CHECK.due("sum", x.sum(2, 0), 75);
        CHECK.due("by places", x.sum(2, 1), 10 + 22 + 36 + 52 + 70 + 90);
        CHECK.due("group 3", x.sum(3, 1), 0);
        CHECK.due("group 4", x.sum(4, 2), FilmLines.UNKNOWN);
        CHECK.due("group -1", x.sum(-1, 0), FilmLines.UNKNOWN);
        CHECK.due("which 2", x.sum(0, 2), FilmLines.OUTSIDE);
        CHECK.due("which -1", x.sum(0, -1), FilmLines.OUTSIDE);
    }

    /** Every row of lost ones: as many numbers as sums are left can be restored. */
    private static void restoreAll() {
        for (int lost = 0; lost < 256; lost++) {
            FilmLines x = new FilmLines();
            for (int i = 0; i < 6; i++) x.put(1, i, 1000 + 17 * i * i);
            boolean known = Integer.bitCount(lost & 63) + Integer.bitCount(lost & 192) <= 2;
            for (int i = 0; i < 6; i++) {
                int want = (lost >> i & 1) == 0 ? FilmLines.NO : known ? 1000 + 17 * i * i : FilmLines.NONE;
                CHECK.due("restore " + lost + " " + i, x.restore(1, lost, i), want);
            }
        }
    }

    private static void restoreRefusals() {
        FilmLines x = new FilmLines();
        CHECK.due("group 4", x.restore(4, 256, 6), FilmLines.UNKNOWN);
        CHECK.due("group -1", x.restore(-1, 1, 0), FilmLines.UNKNOWN);
        CHECK.due("lost 256", x.restore(0, 256, 0), FilmLines.OUTSIDE);
        CHECK.due("lost -1", x.restore(0, -1, 0), FilmLines.OUTSIDE);
        CHECK.due("i 6", x.restore(0, 64, 6), FilmLines.OUTSIDE);
        CHECK.due("i -1", x.restore(0, 1, -1), FilmLines.OUTSIDE);
        CHECK.due("a 0 that is lost", x.restore(0, 1, 0), 0);
        x.put(3, 5, 9);
        CHECK.due("group 3", x.restore(3, 32, 5), 9);
    }
}
