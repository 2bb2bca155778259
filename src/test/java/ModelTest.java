import java.lang.reflect.InvocationTargetException;
import java.lang.reflect.Method;
import java.util.ArrayList;
import java.util.Arrays;
import java.util.Collections;
import java.util.HashMap;
import java.util.List;
import java.util.Map;
import java.util.Random;

/** Runs of chance calls, always the same ones, each answered by the program and by the model. */
public final class ModelTest {
    private static final int RUNS = 2500;
    private static final int CALLS = 220;
    private static final int[] EDGES = {Integer.MIN_VALUE, Integer.MAX_VALUE, -1, 1000003, -1000003, 12, 13, 24, 25, 60, 61, 100};

    private static final List<String> OF_SHEETS = List.of("sheet", "mark", "pour", "copy", "lay", "ask", "item", "rest");

    private static final Map<String, Method> OF_PROGRAM = new HashMap<>();
    private static final Map<String, Method> OF_MODEL = new HashMap<>();
    private static final List<String> NAMES = new ArrayList<>();
    private static final Map<Integer, Integer> SEEN = new HashMap<>();

    private final Random chance;
    private final PowerBonds program = new PowerBonds();
    private final Model model = new Model();
    private final List<String> history = new ArrayList<>();
    private final Due due;

    private ModelTest(Due due, long seed) {
        this.due = due;
        chance = new Random(seed);
    }

    public static void main(String[] args) throws ReflectiveOperationException {
        for (Method method : PowerBonds.class.getDeclaredMethods()) {
            if (java.lang.reflect.Modifier.isPublic(method.getModifiers())) {
                OF_PROGRAM.put(method.getName(), method);
                OF_MODEL.put(method.getName(), Model.class.getDeclaredMethod(method.getName(), method.getParameterTypes()));
                NAMES.add(method.getName());
            }
        }
        Collections.sort(NAMES);
        Due due = new Due();
        int runs = args.length > 0 ? Integer.parseInt(args[0]) : RUNS;
        long first = args.length > 1 ? Long.parseLong(args[1]) : 0;
        for (long seed = first; seed < first + runs && due.wrong() == 0; seed++) {
            new ModelTest(due, seed).runCalls();
        }
        for (int refusal : new int[] {Model.BAD, Model.NO, Model.FULL, Model.NONE, Model.MANY, Model.CLASH, Model.NOTHING,
            Model.KIND, Model.INDEX, Model.SIZE}) {
            due.holds(refusal + " was answered often", SEEN.getOrDefault(refusal, 0) > 20);
        }
        due.end();
    }

    private void runCalls() throws ReflectiveOperationException {
        if (chance.nextInt(10) > 0) {
            buildWhole();
        }
        boolean sheetsMost = chance.nextInt(3) == 0;
        while (history.size() < CALLS && due.wrong() == 0) {
            if (sheetsMost && chance.nextInt(4) > 0) {
                callAny(OF_SHEETS.get(chance.nextInt(OF_SHEETS.size())));
                continue;
            }
            switch (chance.nextInt(24)) {
                case 0, 1, 2 -> tellText();
                case 3 -> tellSteps();
                case 4 -> call("set", chance.nextInt(12), 3, number());
                case 5 -> call("run", 1 + chance.nextInt(4));
                case 6 -> call("answers");
                default -> callAny(NAMES.get(chance.nextInt(NAMES.size())));
            }
        }
        for (int i = -1; i <= 8; i++) {
            call("count", i);
        }
    }

    private int call(String name, int... values) throws ReflectiveOperationException {
        Object[] arguments = Arrays.stream(values).boxed().toArray();
        int want = (Integer) OF_MODEL.get(name).invoke(model, arguments);
        int got;
        try {
            got = (Integer) OF_PROGRAM.get(name).invoke(program, arguments);
        } catch (InvocationTargetException e) {
            System.out.println(history);
            throw new IllegalStateException(name + Arrays.toString(values), e.getCause());
        }
        String told = name + Arrays.toString(values) + "=" + want;
        history.add(told);
        SEEN.merge(want, 1, Integer::sum);
        due.due(told, got, want);
        if (got != want) {
            System.out.println(history);
        }
        return got;
    }

    private int number() {
        return switch (chance.nextInt(6)) {
            case 0 -> EDGES[chance.nextInt(EDGES.length)];
            case 1 -> chance.nextInt();
            default -> chance.nextInt(20);
        };
    }

    private int near(int many) {
        return chance.nextInt(30) == 0 ? number() : chance.nextInt(15) == 0 ? many : chance.nextInt(Math.max(1, many));
    }

    private void callAny(String name) throws ReflectiveOperationException {
        int parts = model.count(0);
        int bonds = model.count(1);
        switch (name) {
            case "part" -> callSeldom(name, near(6), near(2), chance.nextInt(4) == 0 ? number() : shareCode());
            case "told" -> call(name, near(parts), near(7));
            case "as" -> call(name, near(parts), near(6));
            case "set" -> call(name, near(parts), near(5), chance.nextBoolean() ? shareCode() : number());
            case "bond" -> callSeldom(name, near(parts), near(parts));
            case "breaks" -> callSeldom(name, near(bonds));
            case "of" -> call(name, near(bonds), near(6));
            case "strokes" -> call(name, near(4));
            case "can" -> call(name, near(1 << bonds));
            case "run" -> call(name, chance.nextInt(8) == 0 ? near(61) : near(5));
            case "feed" -> call(name, chance.nextInt(), number(), chance.nextInt());
            case "trim" -> call(name, near(model.count(6) + 1));
            case "textTold" -> call(name, near(model.count(4)), near(3));
            case "why" -> call(name, near(2), near(12));
            case "read", "signs" -> call(name, near(name.equals("read") ? bonds : parts));
            case "apart", "way" -> call(name, near(parts), near(parts));
            case "worth" -> call(name, near(2), number(), number());
            case "sheet" -> callSeldom(name, near(4), near(4) - 1, chance.nextInt(4) == 0 ? number() : chance.nextInt(26) - 1);
            case "mark" -> call(name, near(4), near(chance.nextBoolean() ? 6 : 24), number());
            case "pour" -> call(name, near(4));
            case "copy" -> call(name, near(4), near(8), near(4), near(8), chance.nextInt(8) == 0 ? number() : chance.nextInt(10) - 1);
            case "moves" -> call(name, aGive(), near(bonds), near(2));
            case "lay" -> layAny();
            case "ask" -> call(name, near(5), near(6));
            case "item" -> call(name, near(5), near(chance.nextBoolean() ? 6 : 24));
            case "rest" -> call(name, near(5), number());
            case "tell" -> call(name, number());
            case "check" -> call(name, chance.nextInt(8) == 0 ? near(32) : near(4));
            case "count" -> call(name, near(8));
            case "dual", "keep", "back" -> callSeldom(name);
            default -> call(name);
        }
    }

    private void callSeldom(String name, int... values) throws ReflectiveOperationException {
        if (chance.nextInt(4) == 0) {
            call(name, values);
        }
    }

    private int aGive() {
        for (int i = 0; i < 12; i++) {
            if (model.told(i, 0) == 3 && chance.nextInt(3) > 0) {
                return i;
            }
        }
        return near(model.count(0));
    }

    private void layAny() throws ReflectiveOperationException {
        int thing = near(4);
        int k = thing == 1 ? near(model.count(0)) : thing == 2 ? near(4) : number();
        call("lay", near(5), thing, k);
    }

    private int shareCode() {
        return 10 * (1 + chance.nextInt(9)) + 1 + chance.nextInt(9);
    }

    private void tellText() throws ReflectiveOperationException {
        StringBuilder told = new StringBuilder(chance.nextInt(5) == 0 ? "  " : "");
        boolean give = chance.nextInt(3) > 0;
        told.append(give ? "give " : "read ").append(near(give ? model.count(0) : model.count(1)) & 15).append(' ');
        expression(told, give, chance.nextInt(5));
        while (chance.nextInt(4) == 0) {
            String signs = "give readtphf0123456789()!!((+-*/<=>&|  \u0000\u00ff";
            int at = chance.nextInt(told.length() + 1);
            if (chance.nextBoolean() || at == told.length()) {
                told.insert(at, signs.charAt(chance.nextInt(signs.length())));
            } else {
                told.deleteCharAt(at);
            }
        }
        told.setLength(Math.min(told.length(), 96));
        feedTape(told.toString());
        call("text");
    }

    private void feedTape(String told) throws ReflectiveOperationException {
        call("trim", 0);
        for (int at = 0; at < told.length(); at += 12) {
            int[] numbers = new int[3];
            for (int i = 0; i < 12; i++) {
                char sign = at + i < told.length() ? told.charAt(at + i) : (char) chance.nextInt(256);
                numbers[i / 4] = numbers[i / 4] << 8 | sign;
            }
            call("feed", numbers);
        }
        call("trim", told.length());
    }

    private void expression(StringBuilder told, boolean give, int depth) {
        int shape = depth == 0 ? chance.nextInt(3) : chance.nextInt(9);
        switch (shape) {
            case 0 -> told.append(chance.nextInt(chance.nextBoolean() ? 10 : 10000));
            case 1, 2 -> told.append((give ? "th" : "tpf").charAt(chance.nextInt(give ? 2 : 3)));
            case 3 -> {
                told.append("!".repeat(1 + chance.nextInt(chance.nextInt(10) == 0 ? 9 : 2)));
                expression(told, give, depth - 1);
            }
            case 4 -> {
                int many = 1 + chance.nextInt(chance.nextInt(10) == 0 ? 9 : 2);
                told.append(chance.nextBoolean() ? "(" : "( ").append("(".repeat(many - 1));
                expression(told, give, depth - 1);
                told.append(")".repeat(many));
            }
            default -> {
                expression(told, give, depth - 1);
                String sign = "+-*/<=>&|".charAt(chance.nextInt(9)) + "";
                told.append(chance.nextInt(3) == 0 ? " " + sign + " " : sign);
                expression(told, give, depth - 1);
            }
        }
    }

    /** The right numbers, but now and then one less, one more, or another one. */
    private void tellSteps() throws ReflectiveOperationException {
        if (chance.nextInt(3) == 0) {
            call("keep");
        }
        call("check", 0);
        int n = 1 + chance.nextInt(chance.nextInt(10) == 0 ? 30 : 5);
        List<Integer> told = new ArrayList<>(model.dueFromImage(n));
        int change = chance.nextInt(6);
        if (change == 0) {
            told.add(number());
        } else if (change == 1 && !told.isEmpty()) {
            told.remove(told.size() - 1);
        } else if (change == 2 && !told.isEmpty()) {
            told.set(chance.nextInt(told.size()), number());
        }
        for (int v : told) {
            call("tell", v);
        }
        call("check", n);
    }

    /** A machine that is whole, if it has room: joins and turns in a tree or with rings, and ends on what is left. */
    private void buildWhole() throws ReflectiveOperationException {
        List<int[]> plan = new ArrayList<>();
        List<int[]> ties = new ArrayList<>();
        int inner = chance.nextInt(6);
        for (int i = 0; i < inner; i++) {
            plan.add(new int[] {chance.nextInt(3) == 0 ? 4 : 5, 0});
            for (int tries = 0; i > 0 && tries < 8; tries++) {
                int other = chance.nextInt(i);
                if (plan.get(other)[0] == 5 || plan.get(other)[1] < 2) {
                    tie(plan, ties, i, other);
                    break;
                }
            }
        }
        for (int extra = chance.nextInt(4); inner > 1 && extra > 0; extra--) {
            int one = chance.nextInt(inner);
            int other = chance.nextInt(inner);
            if (one != other && (plan.get(one)[0] == 5 || plan.get(one)[1] < 2) && (plan.get(other)[0] == 5 || plan.get(other)[1] < 2)) {
                tie(plan, ties, one, other);
            }
        }
        for (int i = 0; i < inner; i++) {
            int wants = plan.get(i)[0] == 4 ? 2 : Math.max(2, plan.get(i)[1] + chance.nextInt(3));
            while (plan.get(i)[1] < wants) {
                plan.add(new int[] {endKind(), 0});
                tie(plan, ties, i, plan.size() - 1);
            }
        }
        for (int pairs = inner == 0 ? 1 + chance.nextInt(3) : 0; pairs > 0; pairs--) {
            plan.add(new int[] {endKind(), 0});
            plan.add(new int[] {endKind(), 0});
            tie(plan, ties, plan.size() - 1, plan.size() - 2);
        }
        layOut(plan, ties);
    }

    private void layOut(List<int[]> plan, List<int[]> ties) throws ReflectiveOperationException {
        List<Integer> order = new ArrayList<>();
        for (int i = 0; i < plan.size(); i++) {
            order.add(i);
        }
        Collections.shuffle(order, chance);
        for (int i : order) {
            call("part", plan.get(i)[0], chance.nextInt(2), shareCode());
        }
        Collections.shuffle(ties, chance);
        for (int[] tie : ties) {
            call("bond", order.indexOf(tie[0]), order.indexOf(tie[1]));
        }
        call("whole");
        call("answers");
        for (int i = 0; i < 4; i++) {
            call("strokes", i);
        }
    }

    private int endKind() {
        return new int[] {0, 1, 1, 1, 2, 2, 2, 3, 3}[chance.nextInt(9)];
    }

    private void tie(List<int[]> plan, List<int[]> ties, int one, int other) {
        plan.get(one)[1]++;
        plan.get(other)[1]++;
        ties.add(chance.nextBoolean() ? new int[] {one, other} : new int[] {other, one});
    }
}
