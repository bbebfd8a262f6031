/** Promises 19 to 22: town, weight, ask, kept. */
public final class StoresTest {
    private static final Check CHECK = new Check();

    public static void main(String[] args) {
        town();
        weight();
        ask();
        keptLeastAsks();
        keptTies();
        keptRefusals();
        CHECK.end("StoresTest");
    }

    private static void town() {
        FilmLines x = new FilmLines();
        CHECK.due("room", x.town(3, 0, 100), 10);
        CHECK.due("far", x.town(3, 1, 0), 10);
        CHECK.due("room again", x.town(3, 0, 0), 100);
        CHECK.due("far again", x.town(3, 1, 100), 0);
        CHECK.due("another town", x.town(2, 0, 10), 10);
        CHECK.due("town 4", x.town(4, 2, 0), FilmLines.UNKNOWN);
        CHECK.due("town -1", x.town(-1, 0, 0), FilmLines.UNKNOWN);
        CHECK.due("what 2", x.town(3, 2, 0), FilmLines.OUTSIDE);
        CHECK.due("what -1", x.town(3, -1, 0), FilmLines.OUTSIDE);
        CHECK.due("101", x.town(3, 0, 101), FilmLines.OUTSIDE);
        CHECK.due("-1", x.town(3, 1, -1), FilmLines.OUTSIDE);
        CHECK.due("refused ones changed nothing", x.town(3, 1, 1), 100);
    }

    private static void weight() {
        FilmLines x = new FilmLines();
        CHECK.due("weight", x.weight(5, 50), 5);
        CHECK.due("weight again", x.weight(5, 1), 50);
        CHECK.due("film 6", x.weight(6, 0), FilmLines.UNKNOWN);
        CHECK.due("film -1", x.weight(-1, 1), FilmLines.UNKNOWN);
        CHECK.due("weight 0", x.weight(5, 0), FilmLines.OUTSIDE);
        CHECK.due("weight 51", x.weight(5, 51), FilmLines.OUTSIDE);
        CHECK.due("refused ones changed nothing", x.weight(5, 2), 1);
    }

    private static void ask() {
        FilmLines x = new FilmLines();
        CHECK.due("ask", x.ask(3, 5, 1000), 0);
        CHECK.due("ask again: no sum", x.ask(3, 5, 7), 1000);
        CHECK.due("another town", x.ask(2, 5, 0), 0);
        CHECK.due("town 4", x.ask(4, 5, -1), FilmLines.UNKNOWN);
        CHECK.due("film 6", x.ask(3, 6, -1), FilmLines.UNKNOWN);
        CHECK.due("film -1", x.ask(3, -1, 0), FilmLines.UNKNOWN);
        CHECK.due("1001", x.ask(3, 5, 1001), FilmLines.OUTSIDE);
        CHECK.due("-1", x.ask(3, 5, -1), FilmLines.OUTSIDE);
        CHECK.due("refused ones changed nothing", x.ask(3, 5, 0), 7);
    }

    private static void keptLeastAsks() {
        FilmLines x = new FilmLines();
        for (int film = 0; film < 6; film++) x.ask(0, film, 1 + film);
        CHECK.due("the two most asked", x.kept(0, 0), 0b110000);
        CHECK.due("others times far", x.kept(0, 1), 100);
        CHECK.due("another town keeps none", x.kept(1, 0), 0);
        x.town(0, 0, 9);
        CHECK.due("room for one", x.kept(0, 0), 0b100000);
        x.town(0, 0, 4);
        CHECK.due("room for none", x.kept(0, 0), 0);
        CHECK.due("all others", x.kept(0, 1), 210);
        x.town(0, 0, 100);
        CHECK.due("room for all", x.kept(0, 0), 63);
        CHECK.due("no others", x.kept(0, 1), 0);
        x.town(0, 0, 15);
        x.weight(5, 15);
        CHECK.due("three light ones ahead of a heavy one", x.kept(0, 0), 0b011100);
        x.ask(0, 5, 1000);
        CHECK.due("a heavy one that is asked often", x.kept(0, 0), 0b100000);
        x.town(0, 1, 100);
        CHECK.due("its others, farther", x.kept(0, 1), 1500);
    }

    private static void keptTies() {
        FilmLines x = new FilmLines();
        for (int film = 0; film < 6; film++) x.ask(0, film, 10);
        CHECK.due("the least as bits", x.kept(0, 0), 3);
        x.weight(4, 4);
        CHECK.due("the lightest ahead of the bits", x.kept(0, 0), 0b010001);
        x.weight(5, 4);
        CHECK.due("two light ones", x.kept(0, 0), 0b110000);
        x.ask(0, 5, 0);
        CHECK.due("what is not asked is not kept", x.kept(0, 0), 0b010001);
        x.town(0, 1, 0);
        CHECK.due("not far: none is kept", x.kept(0, 0), 0);
        CHECK.due("not far: no cost", x.kept(0, 1), 0);
    }

    private static void keptRefusals() {
        FilmLines x = new FilmLines();
        x.ask(3, 0, 1);
        CHECK.due("town 3", x.kept(3, 0), 1);
        CHECK.due("town 4", x.kept(4, 5), FilmLines.UNKNOWN);
        CHECK.due("town -1", x.kept(-1, 0), FilmLines.UNKNOWN);
        CHECK.due("what 2", x.kept(0, 2), FilmLines.OUTSIDE);
        CHECK.due("what -1", x.kept(0, -1), FilmLines.OUTSIDE);
    }
}
