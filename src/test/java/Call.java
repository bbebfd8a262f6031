import java.lang.reflect.Method;
import java.util.ArrayList;
import java.util.HashMap;
import java.util.List;
import java.util.Map;

/** A call that is written as a text, such as "dot(0, 3, 9)" or "key(1, true)". */
final class Call {
    private static final Map<String, Call> KNOWN = new HashMap<>();

    private final Method method;
    private final Object[] numbers;

    private Call(Method method, Object[] numbers) {
        this.method = method;
        this.numbers = numbers;
    }

    static Call of(String text) {
        return KNOWN.computeIfAbsent(text, Call::read);
    }

    /** The calls of a text such as "frame() dot(0, 3, 9)". */
    static List<String> each(String texts) {
        List<String> calls = new ArrayList<>();
        for (String call : texts.split("(?<=\\))")) if (!call.isBlank()) calls.add(call.trim());
        return calls;
    }

    int on(FilmLines x) {
        try {
            return (int) method.invoke(x, numbers);
        } catch (ReflectiveOperationException e) {
            throw new IllegalStateException("no call may throw: " + method + " did", e);
        }
    }

    private static Call read(String text) {
        int open = text.indexOf('(');
        Method method = named(text.substring(0, open));
        String inside = text.substring(open + 1, text.length() - 1).trim();
        String[] parts = inside.isEmpty() ? new String[0] : inside.split(",");
        Object[] numbers = new Object[parts.length];
        for (int i = 0; i < parts.length; i++) {
            boolean truth = method.getParameterTypes()[i] == boolean.class;
            numbers[i] = truth ? (Object) parts[i].trim().equals("true") : (Object) Integer.parseInt(parts[i].trim());
        }
        return new Call(method, numbers);
    }

    private static Method named(String name) {
        for (Method m : FilmLines.class.getMethods()) {
            if (m.getName().equals(name) && m.getDeclaringClass() == FilmLines.class) return m;
        }
        throw new IllegalArgumentException("the face has no " + name);
    }
}
