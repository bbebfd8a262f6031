import java.util.ArrayList;
import java.util.List;

/** One object, and the story of the calls that were made on it, each written as a text such as "dot(0, 3, 9)". */
final class Run {
    private static final int MOST_CALLS = 512;
    private static final int CALLS_AT_ONCE = 60;

    private final Edges edges;
    private final FilmLines x = new FilmLines();
    private final List<String> story = new ArrayList<>();
    private int[][] state;
    private int made;

    Run(Edges edges) {
        this.edges = edges;
    }

    /** Calls whose answers do not matter here. */
    Run go(String calls) {
        for (String call : Call.each(calls)) make(call);
        return this;
    }

    Run says(String text) {
        for (char sign : text.toCharArray()) make("say(" + (int) sign + ")");
        return this;
    }

    Run rule(String text) {
        return says(text).due("rule()", 1);
    }

    Run due(String call, int want) {
        edges.due(call, make(call), want);
        return this;
    }

    /** What is answered to 0 to 3 and 10 to 17 ("show" or "best"), as far as it is told here. */
    Run row(String name, int... wants) {
        for (int i = 0; i < wants.length; i++) due(name + "(" + (i < 4 ? i : i + 6) + ")", wants[i]);
        return this;
    }

    /** The WAYS of a FRAME, its bits and its LOSS. */
    Run cut(int frame, int... wants) {
        for (int i = 0; i < wants.length; i++) {
            due(i < 4 ? "way(" + frame + ", " + i + ")" : "of(" + frame + ", " + (i - 4) + ")", wants[i]);
        }
        return this;
    }

    /** A call that is refused, or that only asks: its answer, and that nothing has changed behind it. */
    Run still(String call, int want) {
        edges.due(call, Call.of(call).on(x), want);
        count();
        edges.same(call, stateNow(), stateWith(List.of(call)));
        return this;
    }

    /** A call that is carried out: its answer, and that it changes these parts and nothing else. */
    Run changes(String call, int want, String... parts) {
        int[][] was = stateNow();
        due(call, want);
        edges.parts(call, WholeState.unlike(was, stateNow()), parts);
        return this;
    }

    /** Every mix of numbers at, within and beyond the edges of a call: each that is refused, and that it changes nothing. */
    Run grid(Grid grid) {
        List<String> refused = new ArrayList<>();
        for (Grid.Row row : grid.refused()) refused.add(row.call);
        for (int from = 0; from < refused.size(); from += CALLS_AT_ONCE) {
            int to = Math.min(refused.size(), from + CALLS_AT_ONCE);
            FilmLines other = new FilmLines();
            for (String call : story) Call.of(call).on(other);
            for (Grid.Row row : grid.refused().subList(from, to)) edges.due(row.call, Call.of(row.call).on(other), row.want);
            edges.same(refused.get(from) + " to " + refused.get(to - 1), stateNow(), stateWith(refused.subList(from, to)));
        }
        return this;
    }

    private int make(String call) {
        count();
        story.add(call);
        state = null;
        return Call.of(call).on(x);
    }

    private void count() {
        made++;
        if (made > MOST_CALLS) throw new IllegalStateException("a test may make 512 calls on an object");
    }

    private int[][] stateNow() {
        if (state == null) state = WholeState.behind(story);
        return state;
    }

    private int[][] stateWith(List<String> more) {
        List<String> longer = new ArrayList<>(story);
        longer.addAll(more);
        return WholeState.behind(longer);
    }
}
