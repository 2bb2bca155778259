import java.lang.reflect.Constructor;
import java.lang.reflect.Field;
import java.lang.reflect.Method;
import java.lang.reflect.Modifier;
import java.util.Map;
import java.util.Set;
import java.util.TreeMap;
import java.util.TreeSet;

/** The public face: constants, the constructor, every method with its parameters, and nothing else that can be seen. */
public final class FaceTest {
    private static final String[] METHODS = {
        "part 3", "told 2", "as 2", "set 3", "bond 2", "breaks 1", "of 2", "whole 0", "answers 0", "strokes 1", "can 1",
        "run 1", "feed 3", "trim 1", "text 0", "textTold 2", "why 2", "read 1", "moves 3", "signs 1", "apart 2", "dual 0",
        "rings 0", "way 2", "worth 3", "sheet 3", "mark 3", "pour 1", "copy 5", "lay 3", "ask 2", "item 2", "rest 2",
        "tell 1", "check 1", "keep 0", "back 0", "count 1"};

    public static void main(String[] args) throws IllegalAccessException {
        Due due = new Due();
        constants(due);
        methods(due);
        classes(due);
        due.end();
    }

    private static void constants(Due due) throws IllegalAccessException {
        Map<String, Integer> want = new TreeMap<>();
        want.put("BAD", -1000000001);
        want.put("NO", -1000000002);
        want.put("FULL", -1000000003);
        want.put("NONE", -1000000005);
        want.put("MANY", -1000000006);
        want.put("CLASH", -1000000007);
        want.put("NOTHING", -1000000011);
        want.put("KIND", -1000000012);
        want.put("INDEX", -1000000013);
        want.put("SIZE", -1000000014);
        Map<String, Integer> got = new TreeMap<>();
        for (Field field : PowerBonds.class.getDeclaredFields()) {
            int seen = field.getModifiers();
            if (!Modifier.isPrivate(seen)) {
                due.holds(field + " is a public constant of int", Modifier.isPublic(seen) && Modifier.isStatic(seen)
                    && Modifier.isFinal(seen) && field.getType() == int.class);
                got.put(field.getName(), field.getInt(null));
            }
            if (Modifier.isStatic(seen)) {
                due.holds(field + " is final", Modifier.isFinal(seen));
            }
        }
        due.holds("constants " + got, got.equals(want));
    }

    private static void methods(Due due) {
        Set<String> want = new TreeSet<>(Set.of(METHODS));
        Set<String> got = new TreeSet<>();
        Set<String> publicNames = new TreeSet<>();
        for (Method method : PowerBonds.class.getDeclaredMethods()) {
            if (Modifier.isPrivate(method.getModifiers()) || method.isSynthetic()) {
                continue;
            }
            due.holds(method + " is public, not static, answers int", Modifier.isPublic(method.getModifiers())
                && !Modifier.isStatic(method.getModifiers()) && method.getReturnType() == int.class);
            for (Class<?> type : method.getParameterTypes()) {
                due.holds(method + " takes ints", type == int.class);
            }
            due.holds("one " + method.getName(), publicNames.add(method.getName()));
            got.add(method.getName() + " " + method.getParameterCount());
        }
        due.holds("methods " + got, got.equals(want));
        for (Method method : PowerBonds.class.getDeclaredMethods()) {
            if (Modifier.isPrivate(method.getModifiers())) {
                due.holds("private " + method.getName() + " has a name of its own", !publicNames.contains(method.getName()));
            }
        }
        Constructor<?>[] made = PowerBonds.class.getDeclaredConstructors();
        due.holds("one public constructor without parameters", made.length == 1
            && Modifier.isPublic(made[0].getModifiers()) && made[0].getParameterCount() == 0);
        due.holds("public and final", Modifier.isPublic(PowerBonds.class.getModifiers())
            && Modifier.isFinal(PowerBonds.class.getModifiers()));
    }

    private static void classes(Due due) {
        Class<?>[] inside = PowerBonds.class.getDeclaredClasses();
        due.holds("at most twelve classes", inside.length + 1 <= 12);
        for (Class<?> one : inside) {
            int seen = one.getModifiers();
            due.holds(one + " is static, neither public nor protected",
                Modifier.isStatic(seen) && !Modifier.isPublic(seen) && !Modifier.isProtected(seen));
            for (Field field : one.getDeclaredFields()) {
                due.holds(field + ": static fields are final",
                    !Modifier.isStatic(field.getModifiers()) || Modifier.isFinal(field.getModifiers()));
            }
            fieldsOf(due, one);
        }
        fieldsOf(due, PowerBonds.class);
    }

    private static void fieldsOf(Due due, Class<?> one) {
        int fields = 0;
        for (Field field : one.getDeclaredFields()) {
            if (!Modifier.isStatic(field.getModifiers())) {
                fields++;
            }
        }
        due.holds(one + " has " + fields + " fields, at most twenty", fields <= 20);
    }
}
