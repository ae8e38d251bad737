import java.lang.reflect.InvocationTargetException;
import java.lang.reflect.Method;
import java.util.ArrayList;
import java.util.HashMap;
import java.util.List;
import java.util.Map;
import java.util.regex.Matcher;
import java.util.regex.Pattern;

/** Calls that are told as texts, such as "fly(0)", and the numbers in them. */
final class Calls {
    private static final Pattern CALL = Pattern.compile("(\\w+)\\(([^)]*)\\)");
    private static final Map<String, Long> NAMES = Map.ofEntries(
        Map.entry("NONE", -1000000L), Map.entry("BAD", -1000001L), Map.entry("STATE", -1000002L),
        Map.entry("FULL", -1000003L), Map.entry("NULL", -1000011L), Map.entry("PLACE", -1000012L),
        Map.entry("KIND", -1000013L), Map.entry("SIZE", -1000014L), Map.entry("STORE", -1000015L),
        Map.entry("MIN", (long) Integer.MIN_VALUE), Map.entry("MAX", (long) Integer.MAX_VALUE));

    private final Map<String, Method> methods = new HashMap<>();

    Calls() {
        for (Method method : HawkAsks.class.getDeclaredMethods()) {
            methods.put(method.getName(), method);
        }
    }

    /** A number, the name of a refusal or finding, MIN, MAX, or bits in braces. */
    static long number(String text) {
        if (!text.startsWith("{")) {
            return NAMES.containsKey(text) ? NAMES.get(text) : Long.parseLong(text);
        }
        long bits = 0;
        for (String bit : text.replaceAll("[{}]", " ").trim().split(" +")) {
            bits |= bit.isEmpty() ? 0 : 1L << Integer.parseInt(bit);
        }
        return bits;
    }

    /** Whether an answer is BAD, STATE, FULL or a finding. */
    static boolean isRefusal(long reply) {
        return reply <= NAMES.get("BAD") && reply >= NAMES.get("STORE");
    }

    long call(HawkAsks x, String text) {
        Matcher m = CALL.matcher(text);
        if (!m.matches() || !methods.containsKey(m.group(1))) {
            throw new IllegalArgumentException("no call: " + text);
        }
        List<Object> arguments = new ArrayList<>();
        for (String argument : m.group(2).split(",")) {
            if (!argument.isBlank()) {
                arguments.add((int) number(argument.trim()));
            }
        }
        try {
            return ((Number) methods.get(m.group(1)).invoke(x, arguments.toArray())).longValue();
        } catch (IllegalAccessException | InvocationTargetException e) {
            throw new IllegalStateException(text, e);
        }
    }
}
