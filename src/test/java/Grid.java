import java.util.ArrayList;
import java.util.List;

/** The numbers that a call takes, in their order, and every mix of them at and just beyond their edges. */
final class Grid {
    /** A call that is refused, and with what. */
    static final class Row {
        final String call;
        final int want;

        Row(String call, int want) {
            this.call = call;
            this.want = want;
        }
    }

    private enum Kind { NUMBERED, OTHER, NOT_BELOW_THE_ONE_AHEAD, TRUTH }

    private static final int MOST_FAR_MIXES = 3;

    private final String name;
    private final List<Kind> kinds = new ArrayList<>();
    private final List<int[]> edges = new ArrayList<>();
    private List<Row> rows;

    Grid(String name) {
        this.name = name;
    }

    /** A number of a FRAME, BLOCK, PIECE and the like: UNKNOWN beyond. */
    Grid known(int least, int most) {
        return add(Kind.NUMBERED, least, most);
    }

    /** Another number: OUTSIDE beyond. */
    Grid within(int least, int most) {
        return add(Kind.OTHER, least, most);
    }

    /** Another number, OUTSIDE too if it is below the one ahead of it. */
    Grid upTo(int least, int most) {
        return add(Kind.NOT_BELOW_THE_ONE_AHEAD, least, most);
    }

    Grid truth() {
        return add(Kind.TRUTH, 0, 1);
    }

    List<Row> refused() {
        if (rows == null) {
            rows = new ArrayList<>();
            mix(new int[kinds.size()], 0);
            if (kinds.size() > MOST_FAR_MIXES) farOneByOne();
        }
        return rows;
    }

    private void farOneByOne() {
        for (int far : new int[] {Integer.MIN_VALUE, Integer.MAX_VALUE}) {
            for (int at = 0; at < kinds.size(); at++) {
                int[] numbers = new int[kinds.size()];
                for (int i = 0; i < numbers.length; i++) numbers[i] = i == at ? far : edges.get(i)[0];
                mix(numbers, numbers.length);
            }
        }
    }

    private Grid add(Kind kind, int least, int most) {
        kinds.add(kind);
        edges.add(new int[] {least, most});
        return this;
    }

    private void mix(int[] numbers, int at) {
        if (at == numbers.length) {
            int want = want(numbers);
            if (want != 0) rows.add(new Row(text(numbers), want));
            return;
        }
        int least = edges.get(at)[0], most = edges.get(at)[1];
        for (int number : kinds.get(at) == Kind.TRUTH ? new int[] {0, 1} : tries(least, most)) {
            numbers[at] = number;
            mix(numbers, at + 1);
        }
    }

    // The farthest numbers are mixed with all others only where that does not make too many mixes.
    private int[] tries(int least, int most) {
        if (kinds.size() > MOST_FAR_MIXES) return new int[] {least - 1, least, most, most + 1};
        return new int[] {Integer.MIN_VALUE, least - 1, least, most, most + 1, Integer.MAX_VALUE};
    }

    private int want(int[] numbers) {
        int want = 0;
        for (int i = 0; i < numbers.length; i++) {
            boolean beyond = numbers[i] < edges.get(i)[0] || numbers[i] > edges.get(i)[1];
            if (kinds.get(i) == Kind.NUMBERED && beyond) return FilmLines.UNKNOWN;
            boolean below = kinds.get(i) == Kind.NOT_BELOW_THE_ONE_AHEAD && numbers[i] < numbers[i - 1];
            if (beyond || below) want = FilmLines.OUTSIDE;
        }
        return want;
    }

    private String text(int[] numbers) {
        StringBuilder text = new StringBuilder(name).append('(');
        for (int i = 0; i < numbers.length; i++) {
            text.append(i == 0 ? "" : ", ");
            if (kinds.get(i) == Kind.TRUTH) text.append(numbers[i] == 1);
            else text.append(numbers[i]);
        }
        return text.append(')').toString();
    }
}
