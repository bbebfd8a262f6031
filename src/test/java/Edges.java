import java.io.IOException;
import java.nio.file.Files;
import java.nio.file.Path;
import java.util.List;

/** Holds the sentences of the document that name a boundary case against runs of calls. Run from the project's root. */
final class Edges {
    /** A story in which nothing that can be changed is as it was at first. */
    static final String STORY =
        "frame() frame() frame() dot(0, 0, 3) dot(0, 1, 3) dot(0, 5, 9) dot(0, 10, 15) dot(0, 15, 2) dot(1, 0, 9) "
        + "dot(1, 6, 4) dot(1, 9, 7) dot(1, 12, 1) dot(2, 3, 8) dot(2, 7, 8) dot(2, 8, 15) dot(2, 13, 6) key(2, true) "
        + "set(0, 41) set(1, 44) set(2, 3) set(3, 7) set(4, 2) set(5, 25) set(6, 3) "
        + "pieces(7) bits(0, 0, 25) bits(1, 2, 70) bits(3, 1, 33) bits(6, 0, 11) bits(7, 2, 500) doors(91) "
        + "line(0, 3, 55) line(9, 9, 0) line(12, 59, 17) line(59, 59, 900) "
        + "say(98) say(62) say(49) say(58) say(50) say(59) say(108) say(60) say(53) say(53) say(58) say(49) say(59) "
        + "say(48) rule() say(107) say(62) say(50) "
        + "town(0, 0, 12) town(1, 1, 20) town(2, 0, 0) town(3, 1, 99) weight(0, 7) weight(3, 2) weight(5, 50) "
        + "ask(0, 0, 30) ask(0, 3, 8) ask(1, 1, 1000) ask(2, 4, 6) ask(3, 5, 77) ask(3, 2, 1) "
        + "right(0, 0, 10, 500, 3) right(1, 2, 0, 999, 20) right(5, 3, 500, 500, 1) right(2, 0, 11, 998, 2) "
        + "land(1, 2) land(6, 2) land(7, 3) see(0, 0, 10, 0, 9) see(0, 0, 500, 5, 12) see(1, 1, 999, 59, 59) "
        + "see(7, 5, 500, 0, 59) see(6, 1, 7, 20, 29) mark(0, 170) mark(1, 85) mark(3, 255) mark(6, 1) mark(7, 128) "
        + "put(0, 0, 65535) put(0, 5, 4) put(1, 2, 700) put(2, 3, 1) put(3, 5, 65535) "
        + "hang(8, 2, 5) hang(9, 5, 100) hang(2, 0, 1) fall(1) fall(7) ";

    private final Check check = new Check();
    private final String document = document();
    private String now = "";
    private int sentences;

    /** The sentence that the next calls hold, in the document's own words. */
    void sentence(int promise, String words) {
        now = "promise " + promise + ", '" + words + "': ";
        sentences++;
        if (document != null) check.due(now + "stands in the document", document.contains(words) ? 1 : 0, 1);
    }

    Run fresh() {
        return new Run(this);
    }

    Run behind(String calls) {
        return fresh().go(calls);
    }

    Run full() {
        return behind(STORY);
    }

    void due(String call, int got, int want) {
        check.due(now + call, got, want);
    }

    void same(String calls, int[][] was, int[][] is) {
        List<String> unlike = WholeState.unlike(was, is);
        check.due(now + calls + " changed " + unlike, unlike.size(), 0);
    }

    void parts(String call, List<String> changed, String... wants) {
        check.due(now + call + " changed " + changed + ", due are " + List.of(wants), changed.equals(List.of(wants)) ? 1 : 0, 1);
    }

    void end(String test) {
        System.out.print(sentences + " sentences, ");
        check.end(test);
    }

    // Lines are joined, so that a sentence may go over several of them.
    private static String document() {
        try {
            return Files.readString(Path.of("../shared/DOC.md")).replaceAll("\\s+", " ");
        } catch (IOException e) {
            System.out.println("no document at ../shared/DOC.md: its words are not looked up");
            return null;
        }
    }
}
