/** Promises 29 and 30: mark, blame. */
public final class MarksTest {
    private static final Check CHECK = new Check();

    public static void main(String[] args) {
        mark();
        blamed();
        pairs();
        innocent();
        refusals();
        CHECK.end("MarksTest");
    }

    private static void mark() {
        FilmLines x = new FilmLines();
        CHECK.due("mark", x.mark(7, 255), 0);
        CHECK.due("mark again", x.mark(7, 1), 255);
        CHECK.due("another seer", x.mark(6, 0), 0);
        CHECK.due("seer 8", x.mark(8, 256), FilmLines.UNKNOWN);
        CHECK.due("seer -1", x.mark(-1, 0), FilmLines.UNKNOWN);
        CHECK.due("256", x.mark(7, 256), FilmLines.OUTSIDE);
        CHECK.due("-1", x.mark(7, -1), FilmLines.OUTSIDE);
        CHECK.due("refused ones changed nothing", x.mark(7, 0), 1);
    }

    private static void blamed() {
        FilmLines x = new FilmLines();
        CHECK.due("all have 0", x.blame(255, 0, 0), 255);
        CHECK.due("none has 1", x.blame(255, 1, 0), 0);
        CHECK.due("what is not known does not count", x.blame(254, 1, 0), 255);
        CHECK.due("nothing known: all", x.blame(0, 255, 0), 255);
        x.mark(3, 6);
        x.mark(5, 4);
        CHECK.due("by one bit", x.blame(4, 4, 0), 0b101000);
        CHECK.due("by two bits", x.blame(6, 6, 0), 0b001000);
        CHECK.due("by two bits, one of them not set", x.blame(6, 4, 0), 0b100000);
    }

    private static void pairs() {
        FilmLines x = new FilmLines();
        x.mark(1, 0b11110000);
        x.mark(4, 0b00001111);
        x.mark(6, 0b00011111);
        CHECK.due("two pairs", x.blame(255, 255, 1), 2);
        CHECK.due("the first", x.blame(255, 255, 2), 14);
        x.mark(4, 255);
        CHECK.due("a blamed one is in no pair", x.blame(255, 255, 1), 1);
        CHECK.due("the first then", x.blame(255, 255, 2), 16);
        CHECK.due("seer 0 leads: no tens", x.blame(0b00100001, 0b00000001, 2), 4);
        x.mark(6, 0);
        CHECK.due("no pair", x.blame(255, 255, 1), 0);
        CHECK.due("no first one", x.blame(255, 255, 2), FilmLines.NONE);
        x.mark(0, 0b00001111);
        CHECK.due("with seer 0", x.blame(255, 255, 2), 1);
    }

    private static void innocent() {
        FilmLines x = new FilmLines();
        CHECK.due("none known", x.blame(0, 0, 3), 1);
        CHECK.due("one known", x.blame(128, 0, 3), 2);
        CHECK.due("all known", x.blame(255, 9, 3), 256);
    }

    private static void refusals() {
        FilmLines x = new FilmLines();
        CHECK.due("known 256", x.blame(256, 0, 0), FilmLines.OUTSIDE);
        CHECK.due("known -1", x.blame(-1, 0, 3), FilmLines.OUTSIDE);
        CHECK.due("is 256", x.blame(0, 256, 0), FilmLines.OUTSIDE);
        CHECK.due("is -1", x.blame(0, -1, 0), FilmLines.OUTSIDE);
        CHECK.due("what 4", x.blame(0, 0, 4), FilmLines.OUTSIDE);
        CHECK.due("what -1", x.blame(0, 0, -1), FilmLines.OUTSIDE);
    }
}
