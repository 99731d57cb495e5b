import java.lang.reflect.InvocationTargetException;
import java.lang.reflect.Method;
import java.lang.reflect.Modifier;
import java.util.ArrayList;
import java.util.HashMap;
import java.util.List;
import java.util.Map;

/** One call told as text, as store(0, 5, MAX), that can be made on any object. */
final class Call {
    /** No call may ever throw; one did. */
    static final class Thrown extends RuntimeException {
        private static final long serialVersionUID = 1;

        Thrown(String message) {
            super(message);
        }
    }

    private static final Map<String, Method> FACE = face();

    private final String text;
    private final Method method;
    private final Object[] arguments;

    private Call(String text) {
        this.text = text;
        int open = text.indexOf('(');
        if (open < 1 || !text.endsWith(")")) {
            throw new IllegalArgumentException("no call: " + text);
        }
        String inside = text.substring(open + 1, text.length() - 1).trim();
        String[] parts = inside.isEmpty() ? new String[0] : inside.split(",");
        this.method = methodNamed(text.substring(0, open).trim(), parts.length);
        this.arguments = new Object[parts.length];
        for (int i = 0; i < parts.length; i++) {
            arguments[i] = number(parts[i].trim());
        }
    }

    static Call named(String name, int... arguments) {
        StringBuilder text = new StringBuilder(name).append('(');
        for (int i = 0; i < arguments.length; i++) {
            text.append(i == 0 ? "" : ", ").append(arguments[i]);
        }
        return new Call(text.append(')').toString());
    }

    /** Braces stand for one call with each of the values in them: owes({-1, 8}, 0) is two calls. */
    static List<Call> all(String text) {
        List<Call> calls = new ArrayList<>();
        int open = text.indexOf('{');
        int close = text.indexOf('}');
        if (open < 0 || close < open) {
            calls.add(new Call(text));
            return calls;
        }
        for (String value : text.substring(open + 1, close).split(",")) {
            calls.addAll(all(text.substring(0, open) + value.trim() + text.substring(close + 1)));
        }
        return calls;
    }

    /** What the call answers; a boolean counts 1 or 0. */
    long on(FurPosts x) {
        try {
            Object answer = method.invoke(x, arguments);
            return answer instanceof Boolean b ? (b ? 1 : 0) : (Integer) answer;
        } catch (InvocationTargetException e) {
            throw new Thrown(text + " threw " + e.getCause());
        } catch (IllegalAccessException e) {
            throw new IllegalStateException(e);
        }
    }

    /** What the call answers when it is refused. */
    long refusal() {
        return answersBoolean() || method.getName().equals("owes") ? 0 : FurPosts.NONE;
    }

    boolean answersBoolean() {
        return method.getReturnType() == boolean.class;
    }

    @Override
    public String toString() {
        return text;
    }

    private static int number(String text) {
        switch (text) {
            case "MIN": return Integer.MIN_VALUE;
            case "MAX": return Integer.MAX_VALUE;
            case "NONE": return FurPosts.NONE;
            default: return Integer.parseInt(text);
        }
    }

    private static Method methodNamed(String name, int parameters) {
        Method method = FACE.get(name);
        if (method == null || method.getParameterCount() != parameters) {
            throw new IllegalArgumentException("no such call: " + name + " with " + parameters);
        }
        return method;
    }

    private static Map<String, Method> face() {
        Map<String, Method> face = new HashMap<>();
        for (Method method : FurPosts.class.getDeclaredMethods()) {
            if (Modifier.isPublic(method.getModifiers())) {
                face.put(method.getName(), method);
            }
        }
        return face;
    }
}
