import java.lang.reflect.InvocationTargetException;
import java.lang.reflect.Method;
import java.util.ArrayList;
import java.util.HashMap;
import java.util.List;
import java.util.Map;

/** A simulator and the calls that were made on it, so that they can be made on a new one too. */
final class Track {
    /** What later calls answer is free. */
    static final int MOST_CALLS = 512;

    /** A method of the face and its arguments. */
    record Call(String name, int... arguments) {
        String words() {
            StringBuilder words = new StringBuilder(name).append('(');
            for (int i = 0; i < arguments.length; i++) {
                words.append(i == 0 ? "" : ", ").append(arguments[i]);
            }
            return words.append(')').toString();
        }
    }

    private static final Map<String, Method> METHODS = new HashMap<>();

    static {
        for (Method method : LockSimulator.class.getDeclaredMethods()) {
            METHODS.put(method.getName(), method);
        }
    }

    private final LockSimulator simulator = new LockSimulator();
    private final List<Call> calls = new ArrayList<>();

    int make(Call call) {
        calls.add(call);
        if (calls.size() > MOST_CALLS) {
            throw new IllegalStateException(call.words() + " is call " + calls.size() + " of one object");
        }
        Method method = METHODS.get(call.name);
        if (method == null || method.getParameterCount() != call.arguments.length) {
            throw new IllegalStateException("there is no call " + call.words());
        }
        Object[] boxed = new Object[call.arguments.length];
        for (int i = 0; i < boxed.length; i++) {
            boxed[i] = call.arguments[i];
        }
        try {
            return (Integer) method.invoke(simulator, boxed);
        } catch (InvocationTargetException e) {
            throw new IllegalStateException(call.words() + " threw " + e.getCause(), e);
        } catch (IllegalAccessException e) {
            throw new IllegalStateException("cannot make " + call.words(), e);
        }
    }

    int make(String name, int... arguments) {
        return make(new Call(name, arguments));
    }

    /** A new simulator on which the same calls were made, but for so many of the last ones. */
    Track again(int withoutLast) {
        Track other = new Track();
        for (int i = 0; i < calls.size() - withoutLast; i++) {
            other.make(calls.get(i));
        }
        return other;
    }

    Call last() {
        return calls.get(calls.size() - 1);
    }
}
