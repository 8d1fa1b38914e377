import java.lang.reflect.Method;
import java.lang.reflect.Modifier;
import java.util.HashMap;
import java.util.Map;

/** One call of the public face, told as a text such as "put(1, -1)"; MIN and MAX are the ends of the number's type. */
final class Call {
    private static final Map<String, Method> FACE = face();
    private static final Map<String, Call> TOLD = new HashMap<>();

    final String text;
    private final Method method;
    private final Object[] args;

    private Call(String text) {
        this.text = text;
        int open = text.indexOf('(');
        method = FACE.get(text.substring(0, open));
        Class<?>[] types = method.getParameterTypes();
        String[] told = text.substring(open + 1, text.length() - 1).split(",");
        if (told.length != types.length) {
            throw new IllegalArgumentException(text);
        }
        args = new Object[types.length];
        for (int i = 0; i < types.length; i++) {
            args[i] = value(told[i].trim(), types[i]);
        }
    }

    static Call of(String text) {
        Call known = TOLD.get(text);
        if (known == null) {
            known = new Call(text);
            TOLD.put(text, known);
        }
        return known;
    }

    /** The answer; a boolean counts 1 or 0. */
    long on(PictureAgency x) {
        try {
            Object answer = method.invoke(x, args);
            return answer instanceof Boolean ? ((Boolean) answer ? 1 : 0) : ((Number) answer).longValue();
        } catch (ReflectiveOperationException e) {
            throw new IllegalStateException(text + " threw", e);
        }
    }

    boolean isOf(String name) {
        return method.getName().equals(name);
    }

    int firstNumber() {
        return args[0] instanceof Integer ? (Integer) args[0] : 0;
    }

    private static Map<String, Method> face() {
        Map<String, Method> face = new HashMap<>();
        for (Method m : PictureAgency.class.getDeclaredMethods()) {
            if (Modifier.isPublic(m.getModifiers())) {
                face.put(m.getName(), m);
            }
        }
        return face;
    }

    private static Object value(String told, Class<?> type) {
        if (type == boolean.class) {
            return told.equals("true");
        }
        if (type == long.class) {
            return told.equals("MIN") ? Long.MIN_VALUE : told.equals("MAX") ? Long.MAX_VALUE : Long.parseLong(told);
        }
        return told.equals("MIN") ? Integer.MIN_VALUE : told.equals("MAX") ? Integer.MAX_VALUE
                : Integer.parseInt(told);
    }
}
