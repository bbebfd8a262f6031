import java.lang.reflect.Field;
import java.lang.reflect.Member;
import java.lang.reflect.Method;
import java.lang.reflect.Modifier;
import java.util.Set;
import java.util.TreeSet;

/** Promise 1 and the public face: constants, constructor, methods, and nothing else that can be seen. */
public final class FaceTest {
    private static final Check CHECK = new Check();
    private static final String[] FACE = {
        "frame()", "dot(int,int,int)", "key(int,boolean)", "set(int,int)", "way(int,int)", "opened(int,int)",
        "of(int,int)", "pieces(int)", "bits(int,int,int)", "doors(int)", "line(int,int,int)", "say(int)", "wipe()",
        "fault()", "rule()", "show(int)", "best(int)", "town(int,int,int)", "weight(int,int)", "ask(int,int,int)",
        "kept(int,int)", "right(int,int,int,int,int)", "land(int,int)", "may(int,int,int)",
        "see(int,int,int,int,int)", "seen(int,int,int)", "owed(int)", "mark(int,int)", "blame(int,int,int)",
        "put(int,int,int)", "sum(int,int)", "restore(int,int,int)", "hang(int,int,int)", "behind(int)", "fall(int)",
        "tree(int)", "told(int)"};

    public static void main(String[] args) {
        methods();
        constants();
        newObject();
        CHECK.end("FaceTest");
    }

    private static void methods() {
        Set<String> seen = new TreeSet<>();
        Set<String> publicNames = new TreeSet<>();
        for (Method m : FilmLines.class.getDeclaredMethods()) {
            if (Modifier.isPrivate(m.getModifiers())) continue;
            CHECK.due("public, an int, not static: " + m, isOfFace(m) && m.getReturnType() == int.class ? 1 : 0, 1);
            StringBuilder sign = new StringBuilder(m.getName()).append('(');
            for (Class<?> c : m.getParameterTypes()) sign.append(sign.charAt(sign.length() - 1) == '(' ? "" : ",").append(c);
            seen.add(sign.append(')').toString());
            publicNames.add(m.getName());
        }
        for (String f : FACE) CHECK.due("there is " + f, seen.contains(f) ? 1 : 0, 1);
        CHECK.due("methods", seen.size(), FACE.length);
        for (Method m : FilmLines.class.getDeclaredMethods())
            if (Modifier.isPrivate(m.getModifiers())) CHECK.due("a name of the face is private: " + m, publicNames.contains(m.getName()) ? 1 : 0, 0);
        CHECK.due("constructors", FilmLines.class.getDeclaredConstructors().length, 1);
        CHECK.due("the constructor", Modifier.isPublic(FilmLines.class.getDeclaredConstructors()[0].getModifiers()) ? 1 : 0, 1);
        int kind = FilmLines.class.getModifiers();
        CHECK.due("public and final", Modifier.isPublic(kind) && Modifier.isFinal(kind) ? 1 : 0, 1);
    }

    private static boolean isOfFace(Member m) {
        return Modifier.isPublic(m.getModifiers()) && !Modifier.isStatic(m.getModifiers());
    }

    private static void constants() {
        int all = 0;
        for (Field f : FilmLines.class.getDeclaredFields()) {
            if (Modifier.isPrivate(f.getModifiers())) continue;
            all++;
            CHECK.due("a constant: " + f, Modifier.isPublic(f.getModifiers()) && Modifier.isStatic(f.getModifiers()) && Modifier.isFinal(f.getModifiers()) ? 1 : 0, 1);
        }
        CHECK.due("constants", all, 7);
        CHECK.due("NONE", FilmLines.NONE, -6);
        CHECK.due("UNKNOWN", FilmLines.UNKNOWN, -1);
        CHECK.due("OUTSIDE", FilmLines.OUTSIDE, -2);
        CHECK.due("STATE", FilmLines.STATE, -3);
        CHECK.due("FULL", FilmLines.FULL, -4);
        CHECK.due("NO", FilmLines.NO, -5);
        CHECK.due("LOST", FilmLines.LOST, -1000000000000000000L);
    }

    private static void newObject() {
        FilmLines x = new FilmLines();
        int[] told = {0, 0, 0, 0, 0, 8, 255};
        for (int what = 0; what < told.length; what++) CHECK.due("told " + what + " at first", x.told(what), told[what]);
        int[] settings = {30, 60, 2, 3, 5, 30, 2};
        for (int which = 0; which < settings.length; which++) CHECK.due("set " + which + " at first", x.set(which, settings[which]), settings[which]);
        for (int piece = 0; piece < 8; piece++)
            for (int size = 0; size < 3; size++) CHECK.due("bits " + piece + " " + size + " at first", x.bits(piece, size, 1), 20 << size);
        for (int town = 0; town < 4; town++) {
            CHECK.due("ROOM at first", x.town(town, 0, 0), 10);
            CHECK.due("FAR at first", x.town(town, 1, 0), 10);
            for (int film = 0; film < 6; film++) CHECK.due("ASKS at first", x.ask(town, film, 1), 0);
        }
        for (int film = 0; film < 6; film++) CHECK.due("WEIGHT at first", x.weight(film, 1), 5);
        for (int seer = 0; seer < 8; seer++) {
            CHECK.due("LAND at first", x.land(seer, 3), 0);
            CHECK.due("MARK at first", x.mark(seer, 3), 0);
            for (int film = 0; film < 6; film++) CHECK.due("SEEN at first", x.seen(seer, film, 0) + x.seen(seer, film, 1), 0);
        }
        for (int group = 0; group < 4; group++)
            for (int i = 0; i < 6; i++) CHECK.due("a number at first", x.put(group, i, 1), 0);
        CHECK.due("nodes that stand at first", x.tree(0), 1023);
        for (int node = 1; node < 10; node++) CHECK.due("tree at first", x.tree(10 + node), (node - 1) / 2);
        for (int node = 1; node < 10; node++) CHECK.due("behind at first", x.behind(node), 10 + x.behind((node - 1) / 2));
    }
}
