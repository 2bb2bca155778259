import java.lang.reflect.InvocationTargetException;
import java.lang.reflect.Method;
import java.util.ArrayList;
import java.util.Arrays;
import java.util.HashMap;
import java.util.List;
import java.util.Map;

/** A row of calls that brings a new object, of the program or of the model, to a state. */
final class Script {
    private static final Map<String, Method> OF_PROGRAM = new HashMap<>();
    private static final Map<String, Method> OF_MODEL = new HashMap<>();

    private final String name;
    private final List<String> names = new ArrayList<>();
    private final List<int[]> values = new ArrayList<>();

    Script(String name) {
        this.name = name;
    }

    Script call(String called, int... with) {
        names.add(called);
        values.add(with);
        return this;
    }

    /** THE TAPE is just these bytes then. */
    Script tape(String told) {
        call("trim", 0);
        for (int at = 0; at < told.length(); at += 12) {
            int[] numbers = new int[3];
            for (int i = 0; i < 12; i++) {
                int sign = at + i < told.length() ? told.charAt(at + i) : ' ';
                numbers[i / 4] = numbers[i / 4] << 8 | sign;
            }
            call("feed", numbers);
        }
        return call("trim", told.length());
    }

    Script text(String told) {
        return tape(told).call("text");
    }

    /** These calls and, behind them, others. */
    Script then(String itsName) {
        Script longer = new Script(itsName);
        longer.names.addAll(names);
        longer.values.addAll(values);
        return longer;
    }

    PowerBonds program() {
        PowerBonds x = new PowerBonds();
        for (int i = 0; i < names.size(); i++) {
            ask(x, names.get(i), values.get(i));
        }
        return x;
    }

    Model model() {
        Model x = new Model();
        for (int i = 0; i < names.size(); i++) {
            ask(x, names.get(i), values.get(i));
        }
        return x;
    }

    int size() {
        return names.size();
    }

    @Override
    public String toString() {
        return name;
    }

    static int ask(PowerBonds x, String called, int... with) {
        return ask(OF_PROGRAM, PowerBonds.class, x, called, with);
    }

    static int ask(Model x, String called, int... with) {
        return ask(OF_MODEL, Model.class, x, called, with);
    }

    private static int ask(Map<String, Method> known, Class<?> type, Object x, String called, int[] with) {
        Object[] arguments = Arrays.stream(with).boxed().toArray();
        try {
            Method method = known.get(called);
            if (method == null) {
                Class<?>[] ints = new Class<?>[with.length];
                Arrays.fill(ints, int.class);
                method = type.getDeclaredMethod(called, ints);
                known.put(called, method);
            }
            return (Integer) method.invoke(x, arguments);
        } catch (InvocationTargetException e) {
            throw new IllegalStateException(called + Arrays.toString(with) + " threw", e.getCause());
        } catch (ReflectiveOperationException e) {
            throw new IllegalStateException(called + Arrays.toString(with), e);
        }
    }
}
