import java.util.ArrayList;
import java.util.Arrays;
import java.util.List;

/**
 * All that can be seen of an object behind a story of calls. Most of it can only be read by calls that change it,
 * so each part is read from an object of its own, to which the same story was told.
 */
final class WholeState {
    /** A story and what reads behind it stay within the 512 calls that the document allows an object. */
    static final int LONGEST_STORY = 250;
    /** The part with the bits of the LINE in seconds 0 to 11; the four behind it have the others. */
    static final int FIRST_OF_LINE = 8;
    private static final int MOST_CALLS = 512;
    private static final int[] HOURS = {0, 9, 10, 11, 499, 500, 501, 998, 999};

    private interface Reader {
        void read(FilmLines x, Row row);
    }

    /** What was read, and by how many calls. */
    private static final class Row {
        private final int[] answers = new int[MOST_CALLS];
        private int count;

        void add(int answer) {
            answers[count++] = answer;
        }

        int[] whole() {
            return Arrays.copyOf(answers, count);
        }
    }

    private static final Reader[] READERS = {
        WholeState::told, WholeState::settings, WholeState::dots, WholeState::cuts, WholeState::film, WholeState::shows,
        WholeState::ruleAtWork, WholeState::signs,
        (x, row) -> line(x, 0, row), (x, row) -> line(x, 12, row), (x, row) -> line(x, 24, row),
        (x, row) -> line(x, 36, row), (x, row) -> line(x, 48, row),
        WholeState::stores, WholeState::seen, WholeState::rightsByHours, WholeState::rightsByTimes,
        WholeState::marks, WholeState::groups, WholeState::tree, WholeState::delays};
    private static final String[] NAMES = {
        "what is told", "settings", "DOTS and KEYS", "CUT", "PIECES and DOORS", "SHOW and BEST", "THE RULE", "the signs",
        "LINE 0 to 11", "LINE 12 to 23", "LINE 24 to 35", "LINE 36 to 47", "LINE 48 to 59",
        "TOWNS", "SEEN", "RIGHTS by hours", "RIGHTS by times", "MARKS", "GROUPS", "NODES", "delays"};

    private WholeState() {
    }

    static int[][] behind(List<String> story) {
        if (story.size() > LONGEST_STORY) throw new IllegalStateException("a story of " + story.size() + " calls");
        int[][] state = new int[READERS.length][];
        for (int i = 0; i < READERS.length; i++) {
            FilmLines x = new FilmLines();
            for (String call : story) Call.of(call).on(x);
            Row row = new Row();
            READERS[i].read(x, row);
            state[i] = row.whole();
        }
        return state;
    }

    /** The names of the parts in which two states differ. */
    static List<String> unlike(int[][] one, int[][] other) {
        List<String> names = new ArrayList<>();
        for (int i = 0; i < NAMES.length; i++) if (!Arrays.equals(one[i], other[i])) names.add(NAMES[i]);
        return names;
    }

    private static void dots(FilmLines x, Row row) {
        int frames = x.told(0);
        for (int frame = 0; frame < frames; frame++) {
            row.add(x.key(frame, false));
            for (int dot = 0; dot < 16; dot++) row.add(x.dot(frame, dot, 0));
        }
        row.add(x.frame());
    }

    private static void cuts(FilmLines x, Row row) {
        int frames = x.told(0);
        for (int frame = 0; frame < frames; frame++) {
            for (int block = 0; block < 4; block++) row.add(x.way(frame, block));
            for (int dot = 0; dot < 16; dot++) row.add(x.opened(frame, dot));
            for (int what = 0; what < 5; what++) row.add(x.of(frame, what));
        }
    }

    private static void told(FilmLines x, Row row) {
        for (int what = 0; what < 7; what++) row.add(x.told(what));
    }

    private static void settings(FilmLines x, Row row) {
        for (int which = 0; which < 7; which++) row.add(x.set(which, 1));
    }

    private static void film(FilmLines x, Row row) {
        row.add(x.pieces(1));
        row.add(x.doors(0));
        for (int piece = 0; piece < 8; piece++)
            for (int size = 0; size < 3; size++) row.add(x.bits(piece, size, 1));
    }

    private static void shows(FilmLines x, Row row) {
        for (int what = 0; what < 18; what++) row.add(x.show(what));
        for (int what = 0; what < 18; what++) row.add(x.best(what));
    }

    /** What THE RULE picks, with all else that a SHOW leans on as it is here. */
    private static void ruleAtWork(FilmLines x, Row row) {
        x.pieces(8);
        x.doors(255);
        x.set(2, 2);
        for (int piece = 0; piece < 8; piece++)
            for (int size = 0; size < 3; size++) x.bits(piece, size, 20 << size);
        for (int bits : new int[] {7, 23, 61, 90, 250}) {
            x.line(0, 59, bits);
            for (int what = 0; what < 18; what++) row.add(x.show(what));
        }
    }

    private static void signs(FilmLines x, Row row) {
        row.add(x.fault());
        for (char sign : ":2;1".toCharArray()) row.add(x.say(sign));
        row.add(x.fault());
        row.add(x.rule());
        ruleAtWork(x, row);
        row.add(x.wipe());
    }

    /** The bits of twelve seconds: those that suffice for the one PIECE are found by halves. */
    private static void line(FilmLines x, int from, Row row) {
        x.wipe();
        x.say('0');
        x.rule();
        x.pieces(1);
        x.set(2, 1);
        for (int second = from; second < from + 12; second++) {
            if (second > 0) x.line(0, second - 1, 0);
            int least = 0, most = 1000;
            while (least < most) {
                int half = (least + most + 1) / 2;
                x.bits(0, 0, half);
                if (x.show(3) == second) least = half;
                else most = half - 1;
            }
            row.add(least);
        }
    }

    private static void stores(FilmLines x, Row row) {
        for (int town = 0; town < 4; town++) {
            row.add(x.kept(town, 0));
            row.add(x.kept(town, 1));
        }
        for (int town = 0; town < 4; town++) {
            for (int film = 0; film < 6; film++) row.add(x.ask(town, film, 0));
            row.add(x.town(town, 0, 0));
            row.add(x.town(town, 1, 0));
        }
        for (int film = 0; film < 6; film++) row.add(x.weight(film, 1));
    }

    private static void seen(FilmLines x, Row row) {
        for (int film = 0; film < 6; film++) {
            row.add(x.owed(film));
            for (int seer = 0; seer < 8; seer++) {
                row.add(x.seen(seer, film, 0));
                row.add(x.seen(seer, film, 1));
                row.add(x.may(seer, film, 500));
            }
        }
        for (int seer = 0; seer < 8; seer++) row.add(x.land(seer, 0));
    }

    private static void rightsByHours(FilmLines x, Row row) {
        for (int land = 0; land < 4; land++) {
            x.land(7, land);
            for (int film = 0; film < 6; film++)
                for (int hour : HOURS) row.add(x.may(7, film, hour));
        }
        row.add(x.told(4));
    }

    private static void rightsByTimes(FilmLines x, Row row) {
        for (int film = 0; film < 6; film++)
            for (int i = 0; i < 21; i++) row.add(x.see(6, film, 500, i, i));
        for (int i = 0; i < 13; i++) row.add(x.right(0, 0, 0, 0, 1));
    }

    private static void marks(FilmLines x, Row row) {
        for (int known = 1; known < 256; known *= 2) row.add(x.blame(known, known, 0));
        for (int seer = 0; seer < 8; seer++) row.add(x.mark(seer, 0));
    }

    private static void groups(FilmLines x, Row row) {
        for (int group = 0; group < 4; group++) {
            row.add(x.sum(group, 0));
            row.add(x.sum(group, 1));
            for (int i = 0; i < 6; i++) row.add(x.put(group, i, 0));
        }
    }

    private static void tree(FilmLines x, Row row) {
        for (int what = 0; what < 20; what++) row.add(x.tree(what));
        x.set(6, 2);
        for (int node = 1; node < 10; node++) {
            row.add(x.fall(node));
            for (int other = node + 1; other < 10; other++) row.add(x.tree(10 + other));
        }
    }

    /** By falls from the last NODE on: none is hung anew, so the delays alone are told. */
    private static void delays(FilmLines x, Row row) {
        for (int node = 9; node > 0; node--) {
            row.add(x.behind(node));
            row.add(x.fall(node));
        }
    }
}
