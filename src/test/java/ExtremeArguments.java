import java.lang.reflect.InvocationTargetException;
import java.lang.reflect.Method;
import java.lang.reflect.Modifier;
import java.util.NoSuchElementException;

/** No call throws but walker, and that only what its promise names, whatever the arguments and the state. */
public final class ExtremeArguments extends Check {
    private static final int MOST_CALLS = 512;
    private static final int[] EXTREMES = {Integer.MIN_VALUE, Integer.MIN_VALUE + 1, -65536, -700, -3, -2, -1, 0, 1, 2, 3, 5, 6, 7, 8, 9,
        12, 13, 14, 20, 23, 24, 25, 30, 31, 59, 60, 61, 99, 100, 199, 200, 201, 700, 701, 9999, 10000, 65536, Integer.MAX_VALUE - 1,
        Integer.MAX_VALUE};
    private static final String FULL = "stair 9;" + counted("bench @ # 3;", 8) + counted("walker @ 0 0 # 0;", 6) + times("rest a a 3;", 6)
        + times("rest b d 30;", 6) + "piano 8;call 37;seed 99999;law sits full<2;law talk pace*pace*9999*9999*9999;law wear 7/(sat-2);";
    private static final String[] TEXTS = {"", "stair 2;walker a 1 0 9 0;piano 1;", FULL};

    public static void main(String[] args) throws Exception {
        for (Method method : HalfLandings.class.getDeclaredMethods()) {
            if (Modifier.isPublic(method.getModifiers())) {
                for (String text : TEXTS) {
                    callWithAll(method, text);
                }
            }
        }
        endWith("");
    }

    private static void callWithAll(Method method, String text) throws Exception {
        Class<?>[] types = method.getParameterTypes();
        Object[] arguments = new Object[types.length];
        long combinations = 1;
        for (int i = 0; i < types.length && i < 3; i++) {
            combinations *= EXTREMES.length;
        }
        HalfLandings x = null;
        int calls = MOST_CALLS;
        for (long combination = 0; combination < combinations; combination++) {
            if (calls >= MOST_CALLS) {
                x = told(text);
                x.go(combination % 2 == 0 ? 0 : 5);
                calls = (text.length() + 19) / 20 + 2;
            }
            long rest = combination;
            for (int i = 0; i < types.length; i++) {
                int extreme = EXTREMES[(int) (rest % EXTREMES.length)];
                arguments[i] = types[i] == boolean.class ? (Object) (combination % 2 == 0) : (Object) extreme;
                rest = i < 2 ? rest / EXTREMES.length : rest + 7;
            }
            call(x, method, arguments);
            calls++;
        }
    }

    private static void call(HalfLandings x, Method method, Object[] arguments) throws Exception {
        asked++;
        try {
            method.invoke(x, arguments);
        } catch (InvocationTargetException e) {
            Throwable thrown = e.getCause();
            boolean named = method.getName().equals("walker")
                && (thrown.getClass() == IndexOutOfBoundsException.class || thrown.getClass() == NoSuchElementException.class);
            if (!named) {
                due(method.getName() + java.util.Arrays.toString(arguments) + " throws " + thrown, 1, 0);
            }
        }
    }
}
