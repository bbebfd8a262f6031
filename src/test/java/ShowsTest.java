/** Promises 9 to 18: pieces, bits, doors, line, say, wipe, fault, rule, show, best. */
public final class ShowsTest {
    private static final Check CHECK = new Check();

    public static void main(String[] args) {
        pieces();
        bits();
        doors();
        line();
        sayAndWipe();
        fault();
        longTexts();
        rule();
        showAtFirst();
        showFacts();
        showBegins();
        showStops();
        showLastSecond();
        showOutside();
        best();
        bestWaits();
        bestFirstOfEquals();
        bestUnbegun();
        bestUnseen();
        bestLastSecond();
        CHECK.end("ShowsTest");
    }

    private static int say(FilmLines x, String text) {
        int many = 0;
        for (int i = 0; i < text.length(); i++) many = x.say(text.charAt(i));
        return many;
    }

    private static void rule(FilmLines x, String text) {
        say(x, text);
        CHECK.due("rule " + text, x.rule(), 1);
    }

    private static int[] show(FilmLines x) {
        int[] told = new int[12];
        for (int i = 0; i < 12; i++) told[i] = x.show(i < 4 ? i : i + 6);
        return told;
    }

    private static int[] best(FilmLines x) {
        int[] told = new int[12];
        for (int i = 0; i < 12; i++) told[i] = x.best(i < 4 ? i : i + 6);
        return told;
    }

    private static void pieces() {
        FilmLines x = new FilmLines();
        CHECK.due("pieces 1", x.pieces(1), 8);
        CHECK.due("pieces 8", x.pieces(8), 1);
        CHECK.due("pieces 0", x.pieces(0), FilmLines.OUTSIDE);
        CHECK.due("pieces 9", x.pieces(9), FilmLines.OUTSIDE);
        CHECK.due("told pieces", x.told(5), 8);
        x.pieces(3);
        CHECK.due("told three pieces", x.told(5), 3);
        CHECK.due("three are seen", x.show(0), 3);
        CHECK.due("three are seen at best", x.best(0), 3);
    }

    private static void bits() {
        FilmLines x = new FilmLines();
        CHECK.due("bits", x.bits(7, 2, 1000), 80);
        CHECK.due("bits again", x.bits(7, 2, 1), 1000);
        CHECK.due("bits of piece 8", x.bits(8, 3, 0), FilmLines.UNKNOWN);
        CHECK.due("bits of piece -1", x.bits(-1, 0, 1), FilmLines.UNKNOWN);
        CHECK.due("bits of size 3", x.bits(7, 3, 1), FilmLines.OUTSIDE);
        CHECK.due("bits of size -1", x.bits(7, -1, 1), FilmLines.OUTSIDE);
        CHECK.due("bits 0", x.bits(7, 2, 0), FilmLines.OUTSIDE);
        CHECK.due("bits 1001", x.bits(7, 2, 1001), FilmLines.OUTSIDE);
        CHECK.due("refused ones changed nothing", x.bits(7, 2, 1), 1);
        x.pieces(3);
        CHECK.due("bits of a piece that is not seen now", x.bits(7, 0, 5), 20);
    }

    private static void doors() {
        FilmLines x = new FilmLines();
        CHECK.due("doors 0", x.doors(0), 255);
        CHECK.due("doors 254", x.doors(254), 0);
        CHECK.due("doors 256", x.doors(256), FilmLines.OUTSIDE);
        CHECK.due("doors -1", x.doors(-1), FilmLines.OUTSIDE);
        CHECK.due("told doors", x.told(6), 254);
        rule(x, "k<1:2;k<4:1;0");
        x.doors(0);
        CHECK.dueAll("only the first is a door", show(x), 8, 5, 16, 15, 2, 2, 2, 2, 2, 2, 2, 2);
        x.doors(0b100100);
        CHECK.dueAll("doors at 2 and 5", show(x), 8, 0, 7, 10, 2, 2, 1, 1, 1, 0, 0, 0);
    }

    private static void line() {
        FilmLines x = new FilmLines();
        CHECK.due("line", x.line(0, 59, 0), 1);
        CHECK.due("nothing comes", x.show(10), FilmLines.NONE);
        CHECK.due("line to its most", x.line(59, 59, 1000), 1);
        CHECK.dueAll("all comes in the last second", show(x), 1, 0, 0, FilmLines.NONE, 0, 0, 0, 0, 0, 0, 0, 0);
        CHECK.due("line from -1", x.line(-1, 5, 1), FilmLines.OUTSIDE);
        CHECK.due("line to 60", x.line(0, 60, 1), FilmLines.OUTSIDE);
        CHECK.due("line from above to", x.line(6, 5, 1), FilmLines.OUTSIDE);
        CHECK.due("line of -1", x.line(0, 5, -1), FilmLines.OUTSIDE);
        CHECK.due("line of 1001", x.line(0, 5, 1001), FilmLines.OUTSIDE);
        CHECK.dueAll("refused ones changed nothing", show(x), 1, 0, 0, FilmLines.NONE, 0, 0, 0, 0, 0, 0, 0, 0);
    }

    private static void sayAndWipe() {
        FilmLines x = new FilmLines();
        CHECK.due("say 32", x.say(32), FilmLines.OUTSIDE);
        CHECK.due("say 127", x.say(127), FilmLines.OUTSIDE);
        CHECK.due("say 33", x.say(33), 1);
        CHECK.due("say 126", x.say(126), 2);
        CHECK.due("told signs", x.told(3), 2);
        CHECK.due("wipe", x.wipe(), 2);
        CHECK.due("wipe none", x.wipe(), 0);
        for (int i = 1; i <= 40; i++) CHECK.due("say", x.say('b'), i);
        CHECK.due("say a 41st", x.say('b'), FilmLines.FULL);
        CHECK.due("outside ahead of full", x.say(5), FilmLines.OUTSIDE);
        CHECK.due("told 40 signs", x.told(3), 40);
        CHECK.due("wipe all", x.wipe(), 40);
    }

    private static void faultOf(String text, int want) {
        FilmLines x = new FilmLines();
        say(x, text);
        CHECK.due("fault of " + text, x.fault(), want);
        CHECK.due("rule of " + text, x.rule(), want == FilmLines.NONE ? 1 : FilmLines.NO);
        CHECK.due("signs left of " + text, x.told(3), want == FilmLines.NONE ? 0 : text.length());
    }

    private static void fault() {
        String whole = "b<123:2;1";
        for (int i = 0; i < whole.length(); i++) faultOf(whole.substring(0, i), i);
        faultOf(whole, FilmLines.NONE);
        for (int i = 0; i < whole.length(); i++) faultOf(whole.substring(0, i) + "x" + whole.substring(i), i);
        faultOf("0", FilmLines.NONE);
        faultOf("2", FilmLines.NONE);
        faultOf("3", 0);
        faultOf("00", 1);
        faultOf("0;", 1);
        faultOf("b<:0;0", 2);
        faultOf("b<1:3;0", 4);
        faultOf("b<1:0:0", 5);
        faultOf("b<1:0;3", 6);
        faultOf("b<1234:0;0", 5);
        faultOf("b=1:0;0", 1);
        faultOf("B<1:0;0", 0);
        faultOf("b<1:0;l>22:1;s<333:2;k>1:0;2", FilmLines.NONE);
        faultOf("l>999:0;0", FilmLines.NONE);
        faultOf("l>000:0;0", FilmLines.NONE);
        faultOf("l>0/0:0;0", 3);
        faultOf("l>0;0", 3);
    }

    private static void longTexts() {
        faultOf("b<1:0;b<1:0;b<1:0;b<1:0;b<1:0;b<1234:0;0", 35);
        faultOf("b<1:0;b<1:0;b<1:0;b<1:0;b<1:0;b<123:0;0", FilmLines.NONE);
        faultOf("b<1:0;b<1:0;b<1:0;b<1:0;b<12:0;b<123:0;0", FilmLines.NONE);
        faultOf("b<1:0;b<1:0;b<1:0;b<1:0;b<1:0;b<1:0;b<1:", 40);
    }

    private static void rule() {
        FilmLines x = new FilmLines();
        CHECK.due("rule of no signs", x.rule(), FilmLines.NO);
        CHECK.due("fault of no signs", x.fault(), 0);
        rule(x, "2");
        CHECK.due("signs are empty then", x.told(3), 0);
        CHECK.due("the rule holds", x.show(10), 2);
        say(x, "1x");
        CHECK.due("a fault", x.rule(), FilmLines.NO);
        CHECK.due("signs stay", x.told(3), 2);
        CHECK.due("the rule stays", x.show(10), 2);
        x.wipe();
        CHECK.due("the rule stays behind a wipe", x.show(17), 2);
        rule(x, "1");
        CHECK.due("another rule", x.show(17), 1);
        rule(x, "k<1:1;k<2:0;k<3:2;k<4:0;k<5:2;k<6:0;1");
        CHECK.dueAll("six clauses", show(x), 8, 0, 7, 8, 1, 0, 2, 0, 2, 0, 1, 1);
    }

    private static void showAtFirst() {
        FilmLines x = new FilmLines();
        CHECK.dueAll("size 0 without a rule", show(x), 8, 0, 0, 7, 0, 0, 0, 0, 0, 0, 0, 0);
    }

    private static void showFacts() {
        FilmLines x = new FilmLines();
        rule(x, "k>5:0;k>2:1;2");
        CHECK.dueAll("by k", show(x), 8, 0, 9, 10, 2, 2, 2, 1, 1, 1, 0, 0);
        rule(x, "s<1:1;s<2:2;0");
        CHECK.dueAll("by s, which is 0 at first", show(x), 8, 0, 9, 9, 1, 2, 0, 1, 2, 0, 1, 2);
        x.line(1, 1, 41);
        rule(x, "l>40:2;l<1:1;0");
        CHECK.dueAll("by l: none in second 0, 41 in second 2", show(x), 8, 0, 3, 8, 1, 0, 0, 0, 2, 0, 0, 0);
        x.line(0, 59, 60);
        rule(x, "b>1:2;b>0:1;0");
        CHECK.dueAll("by b, by then in this second", show(x), 8, 0, 10, 7, 0, 1, 1, 2, 1, 2, 1, 2);
    }

    private static void showBegins() {
        FilmLines x = new FilmLines();
        x.line(0, 59, 20);
        CHECK.due("two of 20 bits", x.show(3), 8);
        x.set(2, 1);
        CHECK.due("begins with one", x.show(3), 7);
        x.set(2, 8);
        CHECK.due("begins with all", x.show(3), 14);
        x.pieces(3);
        CHECK.due("begins with all, if they are fewer", x.show(3), 4);
        CHECK.due("begins with all at best", x.best(0), 3);
    }

    private static void showStops() {
        FilmLines x = new FilmLines();
        x.line(0, 59, 10);
        CHECK.dueAll("a still second ahead of each", show(x), 8, 5, 0, 15, 0, 0, 0, 0, 0, 0, 0, 0);
        x.line(4, 59, 0);
        CHECK.dueAll("two come, then no more", show(x), 2, 55, 0, FilmLines.NONE, 0, 0, FilmLines.NONE, FilmLines.NONE);
        x.line(4, 4, 1);
        CHECK.due("a third is begun", x.show(12), 0);
        CHECK.due("and never whole", x.show(0), 2);
        x.line(2, 59, 0);
        CHECK.dueAll("one comes: not begun", show(x), 0, 0, 0, FilmLines.NONE, 0, FilmLines.NONE);
    }

    /** Where the film's last PIECE is not seen, no second is told, though others are seen. */
    private static void showLastSecond() {
        FilmLines x = new FilmLines();
        x.line(0, 59, 1);
        CHECK.dueAll("three of eight are seen", show(x), 3, 18, 0, FilmLines.NONE, 0, 0, 0, FilmLines.NONE);
        x.pieces(3);
        CHECK.dueAll("the third is the last, seen in the last second", show(x), 3, 18, 0, 59, 0, 0, 0, FilmLines.NONE);
        x.pieces(4);
        CHECK.due("a fourth is not seen", x.show(3), FilmLines.NONE);
        x.pieces(2);
        CHECK.due("two are seen from second 39 on", x.show(3), 40);
        x.pieces(8);
        x.line(0, 59, 0);
        x.line(53, 53, 1000);
        CHECK.dueAll("all are there, and the end comes ahead", show(x), 7, 0, 0, FilmLines.NONE, 0, 0, 0, 0, 0, 0, 0, 0);
        x.line(52, 52, 1000);
        CHECK.dueAll("the eighth in second 59", show(x), 8, 0, 0, 59, 0, 0, 0, 0, 0, 0, 0, 0);
        x.pieces(1);
        CHECK.due("one piece, which is the last", x.show(3), 52);
    }

    private static void showOutside() {
        FilmLines x = new FilmLines();
        for (int what : new int[] {-1, 4, 9, 18, Integer.MAX_VALUE, Integer.MIN_VALUE}) {
            CHECK.due("show " + what, x.show(what), FilmLines.OUTSIDE);
            CHECK.due("best " + what, x.best(what), FilmLines.OUTSIDE);
        }
    }

    private static void best() {
        FilmLines x = new FilmLines();
        x.line(0, 59, 80);
        x.set(2, 1);
        CHECK.dueAll("one of the greatest each second", best(x), 8, 0, 16, 7, 2, 2, 2, 2, 2, 2, 2, 2);
        x.line(0, 59, 79);
        CHECK.dueAll("one bit less: all wait but one", best(x), 8, 0, 16, 8, 2, 2, 2, 2, 2, 2, 2, 2);
        x.doors(0);
        x.bits(7, 2, 1000);
        CHECK.dueAll("one size for all", best(x), 8, 0, 8, 7, 1, 1, 1, 1, 1, 1, 1, 1);
        x.doors(128);
        CHECK.dueAll("a door at the last", best(x), 8, 0, 15, 8, 2, 2, 2, 2, 2, 2, 2, 1);
        rule(x, "0");
        CHECK.due("no rule counts", x.best(2), 15);
    }

    /** More pieces seen go ahead of still seconds, and those ahead of sizes. */
    private static void bestWaits() {
        FilmLines x = new FilmLines();
        x.pieces(2);
        x.set(2, 1);
        x.line(0, 59, 0);
        x.line(0, 0, 40);
        CHECK.dueAll("two small ones", best(x), 2, 0, 0, 1, 0, 0);
        x.line(1, 1, 20);
        CHECK.dueAll("a second size at the end", best(x), 2, 0, 1, 1, 0, 1);
        x.line(0, 1, 0);
        x.line(58, 58, 20);
        x.line(59, 59, 19);
        CHECK.dueAll("the end comes ahead of the second one", best(x), 1, 1, 0, FilmLines.NONE, 0, 0, FilmLines.NONE);
        x.line(58, 59, 20);
        CHECK.dueAll("whole in the last second", best(x), 2, 0, 0, 59, 0, 0);
    }

    private static void bestFirstOfEquals() {
        FilmLines x = new FilmLines();
        x.pieces(3);
        x.set(2, 3);
        x.line(0, 59, 0);
        x.line(0, 0, 80);
        CHECK.dueAll("the first of three with sum 1", best(x), 3, 0, 1, 2, 0, 0, 1);
        x.line(0, 0, 100);
        CHECK.dueAll("the first with sum 2", best(x), 3, 0, 2, 2, 0, 1, 1);
        x.bits(1, 1, 41);
        CHECK.dueAll("another if that is too long", best(x), 3, 0, 2, 2, 1, 0, 1);
    }

    private static void bestUnbegun() {
        FilmLines x = new FilmLines();
        x.line(0, 59, 0);
        CHECK.dueAll("nothing comes", best(x), 0, 0, 0, FilmLines.NONE, FilmLines.NONE, FilmLines.NONE);
        x.line(0, 0, 40);
        CHECK.dueAll("no bit for the third", best(x), 2, 58, 0, FilmLines.NONE, 0, 0, FilmLines.NONE);
        x.line(0, 0, 41);
        CHECK.dueAll("a bit for the third", best(x), 2, 58, 0, FilmLines.NONE, 0, 0, 0, FilmLines.NONE);
        x.pieces(2);
        CHECK.dueAll("no third at all", best(x), 2, 0, 0, 1, 0, 0, FilmLines.NONE);
    }

    private static void bestLastSecond() {
        FilmLines x = new FilmLines();
        x.line(1, 59, 0);
        CHECK.dueAll("two of eight are seen", best(x), 2, 58, 0, FilmLines.NONE, 0, 0, FilmLines.NONE);
        x.pieces(2);
        CHECK.dueAll("the second is the last", best(x), 2, 0, 0, 1, 0, 0, FilmLines.NONE);
        x.pieces(3);
        CHECK.due("a third is not seen", x.best(3), FilmLines.NONE);
        x.pieces(8);
        x.line(0, 59, 0);
        x.line(53, 53, 1000);
        CHECK.dueAll("all are there, and the end comes ahead", best(x), 7, 0, 14, FilmLines.NONE, 2, 2, 2, 2, 2, 2, 2, 0);
        x.line(52, 52, 1000);
        CHECK.dueAll("the eighth in second 59", best(x), 8, 0, 16, 59, 2, 2, 2, 2, 2, 2, 2, 2);
        x.pieces(1);
        CHECK.due("one piece, which is the last", x.best(3), 52);
    }

    private static void bestUnseen() {
        FilmLines x = new FilmLines();
        x.line(0, 59, 0);
        x.line(59, 59, 1);
        CHECK.dueAll("one bit for the first", best(x), 0, 0, 0, FilmLines.NONE, 0, FilmLines.NONE);
        CHECK.dueAll("one bit for the first by the rule", show(x), 0, 0, 0, FilmLines.NONE, 0, FilmLines.NONE);
        x.line(0, 0, 200);
        x.set(2, 8);
        CHECK.dueAll("all are there in second 0", best(x), 8, 0, 2, 7, 0, 0, 0, 0, 0, 0, 1, 1);
        x.line(0, 0, 100);
        CHECK.dueAll("none is seen: the first by sizes", best(x), 0, 0, 0, FilmLines.NONE, 0, 0, 0, 0, 0, 0, FilmLines.NONE);
        x.line(59, 59, 1000);
        CHECK.dueAll("all are there only in the last second", best(x), 1, 0, 2, FilmLines.NONE, 2, 0, 0, 0, 0, 0, 0, 0);
    }
}
