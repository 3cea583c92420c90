import java.lang.reflect.InvocationTargetException;
import java.lang.reflect.Method;
import java.util.Map;
import java.util.TreeMap;

/** The calls of a class with the document's face, by their names. */
final class Calls {
    private final Map<String, Method> methods = new TreeMap<>();

    Calls(Class<?> face) {
        for (Method m : face.getDeclaredMethods()) {
            methods.put(m.getName(), m);
        }
    }

    /** A flag is told by a number: 0 is false. */
    long answer(Object on, String name, int... numbers) {
        Method m = methods.get(name);
        if (m == null || m.getParameterCount() != numbers.length) {
            throw new IllegalArgumentException("no call " + name + " with " + numbers.length + " numbers");
        }
        Object[] values = new Object[numbers.length];
        for (int i = 0; i < numbers.length; i++) {
            boolean isFlag = m.getParameterTypes()[i] == boolean.class;
            values[i] = isFlag ? (Object) (numbers[i] != 0) : (Object) numbers[i];
        }
        try {
            return ((Number) m.invoke(on, values)).longValue();
        } catch (IllegalAccessException | InvocationTargetException e) {
            throw new IllegalStateException("threw in " + name, e);
        }
    }

    /** A call as it is written: "go(0, 1)"; LEAST and MOST are the least and the greatest int. */
    long answer(Object on, String call) {
        int open = call.indexOf('(');
        if (open < 0 || !call.endsWith(")")) {
            throw new IllegalArgumentException("not a call: " + call);
        }
        String inside = call.substring(open + 1, call.length() - 1).trim();
        String[] words = inside.isEmpty() ? new String[0] : inside.split(" *, *");
        int[] numbers = new int[words.length];
        for (int i = 0; i < words.length; i++) {
            numbers[i] = number(words[i]);
        }
        return answer(on, call.substring(0, open), numbers);
    }

    private static int number(String word) {
        switch (word) {
            case "LEAST":
                return Integer.MIN_VALUE;
            case "MOST":
                return Integer.MAX_VALUE;
            case "true":
                return 1;
            case "false":
                return 0;
            default:
                return Integer.parseInt(word);
        }
    }
}
