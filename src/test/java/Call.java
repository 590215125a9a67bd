import java.lang.reflect.Method;
import java.util.HashMap;
import java.util.Map;

/** One call, written as "ticket 0 MAX"; behind a = stands the answer that is due: "ticket 0 MAX = BAD". */
final class Call {
    private static final Map<String, Long> WORDS = Map.ofEntries(Map.entry("MIN", (long) Integer.MIN_VALUE),
            Map.entry("MAX", (long) Integer.MAX_VALUE), Map.entry("LEAST", Long.MIN_VALUE),
            Map.entry("MOST", Long.MAX_VALUE), Map.entry("NONE", -1L), Map.entry("BAD", -2L),
            Map.entry("STATE", -3L), Map.entry("FULL", -4L), Map.entry("NO", Long.MIN_VALUE),
            Map.entry("NOTHING", -11L), Map.entry("CAST", -12L), Map.entry("PLACE", -13L), Map.entry("SIZE", -14L));
    private static final Map<Class<?>, Map<String, Method>> METHODS = new HashMap<>();

    final String text;
    final String name;
    final boolean hasDue;
    final long due;
    private final long[] args;

    Call(String written) {
        String[] sides = written.split("=");
        String[] words = sides[0].trim().split(" +");
        text = sides[0].trim();
        name = words[0];
        args = new long[words.length - 1];
        for (int k = 1; k < words.length; k++) {
            args[k - 1] = number(words[k]);
        }
        hasDue = sides.length > 1;
        due = hasDue ? number(sides[1].trim()) : 0;
    }

    private static long number(String word) {
        Long told = WORDS.get(word);
        return told != null ? told : Long.parseLong(word);
    }

    /** Whether what is due is one of the document's refusals. */
    boolean isRefusal() {
        return hasDue && (due == Long.MIN_VALUE || due <= -1 && due >= -4 || due <= -11 && due >= -14);
    }

    /** Makes the call on a TicketHall or a NaiveHall. */
    long on(Object hall) {
        Method method = METHODS.computeIfAbsent(hall.getClass(), Call::methodsOf).get(name);
        if (method == null || method.getParameterCount() != args.length) {
            throw new IllegalArgumentException("no such call: " + text);
        }
        Object[] given = new Object[args.length];
        for (int k = 0; k < args.length; k++) {
            boolean isLong = method.getParameterTypes()[k] == long.class;
            given[k] = isLong ? (Object) args[k] : (Object) Math.toIntExact(args[k]);
        }
        try {
            return ((Number) method.invoke(hall, given)).longValue();
        } catch (ReflectiveOperationException e) {
            throw new IllegalStateException(text, e);
        }
    }

    private static Map<String, Method> methodsOf(Class<?> type) {
        Map<String, Method> found = new HashMap<>();
        for (Method m : type.getDeclaredMethods()) {
            if (java.lang.reflect.Modifier.isPublic(m.getModifiers())) {
                found.put(m.getName(), m);
            }
        }
        return found;
    }
}
