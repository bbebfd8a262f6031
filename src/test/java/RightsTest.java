/** Promises 23 to 28: right, land, may, see, seen, owed. */
public final class RightsTest {
    private static final Check CHECK = new Check();

    public static void main(String[] args) {
        right();
        land();
        mayByHours();
        mayByTimes();
        see();
        seen();
        owed();
        CHECK.end("RightsTest");
    }

    private static void right() {
        FilmLines x = new FilmLines();
        CHECK.due("film 6", x.right(6, 0, 5, 4, 0), FilmLines.UNKNOWN);
        CHECK.due("film -1", x.right(-1, 0, 0, 0, 1), FilmLines.UNKNOWN);
        CHECK.due("land 4", x.right(0, 4, 5, 4, 0), FilmLines.UNKNOWN);
        CHECK.due("land -1", x.right(0, -1, 0, 0, 1), FilmLines.UNKNOWN);
        CHECK.due("from -1", x.right(0, 0, -1, 0, 1), FilmLines.OUTSIDE);
        CHECK.due("to 1000", x.right(0, 0, 0, 1000, 1), FilmLines.OUTSIDE);
        CHECK.due("from above to", x.right(0, 0, 6, 5, 1), FilmLines.OUTSIDE);
        CHECK.due("times 0", x.right(0, 0, 0, 0, 0), FilmLines.OUTSIDE);
        CHECK.due("times 21", x.right(0, 0, 0, 0, 21), FilmLines.OUTSIDE);
        CHECK.due("refused ones are no rights", x.told(4), 0);
        for (int i = 0; i < 12; i++) CHECK.due("right " + i, x.right(5, 3, 0, 999, 20), i);
        CHECK.due("a 13th", x.right(0, 0, 0, 0, 1), FilmLines.FULL);
        CHECK.due("outside ahead of full", x.right(0, 0, 0, 0, 0), FilmLines.OUTSIDE);
        CHECK.due("told rights", x.told(4), 12);
    }

    private static void land() {
        FilmLines x = new FilmLines();
        CHECK.due("land", x.land(7, 3), 0);
        CHECK.due("land again", x.land(7, 1), 3);
        CHECK.due("land 4", x.land(7, 4), FilmLines.UNKNOWN);
        CHECK.due("land -1", x.land(7, -1), FilmLines.UNKNOWN);
        CHECK.due("seer 8", x.land(8, 0), FilmLines.UNKNOWN);
        CHECK.due("seer -1", x.land(-1, 0), FilmLines.UNKNOWN);
        CHECK.due("refused ones changed nothing", x.land(7, 0), 1);
    }

    private static void mayByHours() {
        FilmLines x = new FilmLines();
        x.right(2, 1, 10, 20, 1);
        CHECK.due("not in its land", x.may(0, 2, 15), 0);
        x.land(0, 1);
        CHECK.due("ahead", x.may(0, 2, 9), 0);
        CHECK.due("from", x.may(0, 2, 10), 1);
        CHECK.due("to", x.may(0, 2, 20), 1);
        CHECK.due("behind", x.may(0, 2, 21), 0);
        CHECK.due("another film", x.may(0, 3, 15), 0);
        CHECK.due("hour 0", x.may(0, 2, 0), 0);
        CHECK.due("hour 999", x.may(0, 2, 999), 0);
        CHECK.due("another seer", x.may(1, 2, 15), 0);
        CHECK.due("hour -1", x.may(0, 2, -1), FilmLines.OUTSIDE);
        CHECK.due("hour 1000", x.may(0, 2, 1000), FilmLines.OUTSIDE);
        CHECK.due("seer 8", x.may(8, 2, 1000), FilmLines.UNKNOWN);
        CHECK.due("film 6", x.may(0, 6, 1000), FilmLines.UNKNOWN);
    }

    private static void mayByTimes() {
        FilmLines x = new FilmLines();
        x.right(0, 0, 0, 10, 1);
        x.right(0, 0, 5, 20, 2);
        x.right(0, 3, 0, 999, 20);
        CHECK.due("once", x.see(0, 0, 15, 0, 0), 1);
        CHECK.due("no more by the first right alone", x.may(0, 0, 4), 0);
        CHECK.due("but by the second", x.may(0, 0, 5), 1);
        CHECK.due("twice", x.see(0, 0, 7, 0, 0), 0);
        CHECK.due("no more", x.see(0, 0, 7, 1, 1), FilmLines.NO);
        CHECK.due("another seer still may", x.may(1, 0, 4), 1);
        x.land(0, 3);
        CHECK.due("by another land's right: its times go on", x.see(0, 0, 999, 1, 1), 1);
        CHECK.due("three times", x.seen(0, 0, 1), 3);
    }

    private static void see() {
        FilmLines x = new FilmLines();
        x.right(5, 0, 0, 999, 20);
        CHECK.due("see the ends", x.see(7, 5, 0, 0, 0), 1);
        CHECK.due("see the last", x.see(7, 5, 999, 59, 59), 1);
        CHECK.due("see all", x.see(7, 5, 0, 0, 59), 58);
        CHECK.due("see nothing new", x.see(7, 5, 0, 10, 20), 0);
        CHECK.due("from above to", x.see(7, 5, 0, 5, 4), FilmLines.OUTSIDE);
        CHECK.due("from -1", x.see(7, 5, 0, -1, 4), FilmLines.OUTSIDE);
        CHECK.due("to 60", x.see(7, 5, 0, 0, 60), FilmLines.OUTSIDE);
        CHECK.due("hour 1000", x.see(7, 5, 1000, 0, 0), FilmLines.OUTSIDE);
        CHECK.due("hour -1", x.see(7, 5, -1, 0, 0), FilmLines.OUTSIDE);
        CHECK.due("seer 8", x.see(8, 5, 1000, 0, 0), FilmLines.UNKNOWN);
        CHECK.due("film 6", x.see(7, 6, 1000, 0, 0), FilmLines.UNKNOWN);
        CHECK.due("outside ahead of no", x.see(7, 4, 0, 5, 4), FilmLines.OUTSIDE);
        CHECK.due("no right", x.see(7, 4, 0, 0, 0), FilmLines.NO);
        CHECK.due("times", x.seen(7, 5, 1), 4);
        CHECK.due("refused ones are not seen", x.seen(7, 4, 0) + x.seen(7, 4, 1), 0);
    }

    private static void seen() {
        FilmLines x = new FilmLines();
        x.right(1, 0, 0, 999, 20);
        x.see(2, 1, 0, 3, 6);
        x.see(2, 1, 0, 5, 8);
        CHECK.due("seconds count once", x.seen(2, 1, 0), 6);
        CHECK.due("times", x.seen(2, 1, 1), 2);
        CHECK.due("another film", x.seen(2, 2, 0), 0);
        CHECK.due("another seer", x.seen(3, 1, 1), 0);
        CHECK.due("what 2", x.seen(2, 1, 2), FilmLines.OUTSIDE);
        CHECK.due("what -1", x.seen(2, 1, -1), FilmLines.OUTSIDE);
        CHECK.due("seer -1", x.seen(-1, 1, 2), FilmLines.UNKNOWN);
        CHECK.due("film 6", x.seen(2, 6, 2), FilmLines.UNKNOWN);
    }

    private static void owed() {
        FilmLines x = new FilmLines();
        x.right(0, 0, 0, 999, 20);
        CHECK.due("nothing seen", x.owed(0), 0);
        x.see(0, 0, 0, 0, 4);
        CHECK.due("five are free", x.owed(0), 0);
        x.see(0, 0, 0, 30, 30);
        CHECK.due("a sixth is not", x.owed(0), 3);
        x.see(1, 0, 0, 0, 5);
        CHECK.due("five are free for each seer", x.owed(0), 6);
        x.see(2, 0, 0, 0, 1);
        CHECK.due("what is left free is not for others", x.owed(0), 6);
        CHECK.due("another film", x.owed(1), 0);
        x.set(3, 100);
        CHECK.due("at the rate of now", x.owed(0), 200);
        x.set(4, 0);
        CHECK.due("none free", x.owed(0), 1400);
        x.set(4, 60);
        CHECK.due("all free", x.owed(0), 0);
        CHECK.due("film 6", x.owed(6), FilmLines.UNKNOWN);
        CHECK.due("film -1", x.owed(-1), FilmLines.UNKNOWN);
        x.set(4, 0);
        for (int seer = 0; seer < 8; seer++) x.see(seer, 0, 0, 0, 59);
        CHECK.due("the most", x.owed(0), 48000);
    }
}
