import java.util.ArrayList;
import java.util.Arrays;
import java.util.List;
import java.util.Map;
import java.util.Set;
import java.util.TreeMap;

/**
 * Every call of promises 2 to 39, with each of its arguments at its edges, in states from nothing at all to full: it answers as
 * the model does, and if it is refused, or asks alone, all that can be asked is as ahead of it ("changes nothing (but the tape
 * and the numbers that wait, where told)").
 */
public final class EdgesTest {
    private static final int MIN = Integer.MIN_VALUE, MAX = Integer.MAX_VALUE;
    private static final int[] PARTS = {MIN, -1, 0, 1, 2, 5, 11, 12, MAX}, BONDS = {MIN, -1, 0, 1, 11, 12, MAX};
    private static final int[] SHARES = {MIN, -11, 0, 9, 10, 11, 19, 20, 91, 99, 100, 101, MAX}, NUMBERS = {MIN, -1, 0, 1, 1000002, 1000003, MAX};
    private static final int[] PLACES = {MIN, -1, 0, 1, 2, 3, 23, 24, 25, MAX}, FEW_PLACES = {MIN, -1, 0, 2, 3, 24, MAX};
    private static final int CHUNK = 50;

    /** The calls that change nothing, whatever they answer. */
    private static final Set<String> ASK_ALONE = Set.of("told", "as", "of", "whole", "answers", "strokes", "can", "textTold", "why", "read",
        "moves", "signs", "apart", "rings", "way", "worth", "ask", "item", "rest", "count");

    private static final Due DUE = new Due();
    private static int compared;

    public static void main(String[] args) {
        Map<String, int[][]> edges = edges();
        for (Script state : List.of(nothing(), rich(), full(), notWhole(), many(), none(), clash())) {
            for (Map.Entry<String, int[][]> one : edges.entrySet()) {
                look(state, one.getKey(), one.getValue());
            }
        }
        Script last = last();
        for (String name : List.of("run", "check", "keep", "back", "text", "read")) {
            look(last, name, edges.get(name));
        }
        System.out.println(compared + " views compared");
        DUE.holds("views were compared", compared > 1000);
        DUE.end();
    }

    private static int[] upTo(int largest) {
        int[] values = new int[largest + 5];
        for (int i = 0; i <= largest + 2; i++) {
            values[i] = i - 1;
        }
        values[largest + 3] = MIN;
        values[largest + 4] = MAX;
        return values;
    }

    /** For each call the values of each of its arguments. */
    private static Map<String, int[][]> edges() {
        Map<String, int[][]> edges = new TreeMap<>();
        edges.put("part", new int[][] {upTo(5), upTo(1), SHARES});
        edges.put("told", new int[][] {PARTS, upTo(6)});
        edges.put("as", new int[][] {PARTS, upTo(5)});
        edges.put("set", new int[][] {PARTS, upTo(6), {MIN, -1, 0, 9, 10, 11, 99, 100, 1000003, MAX}});
        edges.put("bond", new int[][] {PARTS, PARTS});
        edges.put("breaks", new int[][] {BONDS});
        edges.put("of", new int[][] {BONDS, upTo(5)});
        edges.put("strokes", new int[][] {upTo(3)});
        edges.put("can", new int[][] {{MIN, -1, 0, 1, 2, 3, 7, 8, 15, 16, 63, 64, 127, 128, 4095, 4096, MAX}});
        edges.put("run", new int[][] {{MIN, -1, 0, 1, 2, 59, 60, 61, MAX}});
        edges.put("feed", new int[][] {{MIN, 0, MAX}, {-1, 0x20202020}, {1, 0}});
        edges.put("trim", new int[][] {{MIN, -1, 0, 1, 11, 12, 13, 95, 96, 97, MAX}});
        edges.put("textTold", new int[][] {{MIN, -1, 0, 1, 2, 13, 14, MAX}, upTo(2)});
        edges.put("why", new int[][] {upTo(1), upTo(11)});
        edges.put("read", new int[][] {BONDS});
        edges.put("moves", new int[][] {PARTS, BONDS, upTo(1)});
        edges.put("signs", new int[][] {PARTS});
        edges.put("apart", new int[][] {PARTS, PARTS});
        edges.put("way", new int[][] {PARTS, PARTS});
        edges.put("worth", new int[][] {upTo(1), NUMBERS, NUMBERS});
        edges.put("sheet", new int[][] {upTo(3), {MIN, -2, -1, 0, 1, 2, 3, MAX}, {MIN, -1, 0, 1, 24, 25, MAX}});
        edges.put("mark", new int[][] {upTo(3), PLACES, {MIN, -32769, 32768, 65536, MAX}});
        edges.put("pour", new int[][] {upTo(3)});
        edges.put("copy", new int[][] {upTo(3), {-1, 0, 3, 24, MAX}, {-1, 0, 1, 2, 3, 4}, {MIN, -1, 0, 2, 3, 24}, FEW_PLACES});
        edges.put("lay", new int[][] {upTo(4), upTo(3), {MIN, -1, 0, 1, 3, 4, 11, 12, MAX}});
        edges.put("ask", new int[][] {upTo(4), upTo(5)});
        edges.put("item", new int[][] {upTo(4), PLACES});
        edges.put("rest", new int[][] {upTo(4), NUMBERS});
        edges.put("tell", new int[][] {NUMBERS});
        edges.put("check", new int[][] {{MIN, -1, 0, 1, 2, 3, 29, 30, 31, MAX}});
        edges.put("count", new int[][] {upTo(7)});
        for (String name : List.of("whole", "answers", "text", "dual", "rings", "keep", "back")) {
            edges.put(name, new int[0][]);
        }
        return edges;
    }

    private static Script nothing() {
        return new Script("nothing at all");
    }

    /** A JOIN with a GIVE, a STORE and a LOSS, beside a TURN between two more; all else in use. */
    private static Script rich() {
        Script s = new Script("one answer, all in use");
        int[][] parts = {{5, 1, 11}, {3, 0, 12}, {1, 0, 32}, {2, 0, 91}, {4, 1, 27}, {1, 1, 11}, {0, 1, 55}};
        for (int[] part : parts) {
            s.call("part", part);
        }
        int[][] bonds = {{1, 0}, {0, 2}, {0, 3}, {4, 5}, {6, 4}};
        for (int[] bond : bonds) {
            s.call("bond", bond);
        }
        s.text("give 1 t*3+h").text("read 1 p-f").text("read 11 1").text("give 1 t*2+h+1").call("set", 2, 3, 7).call("set", 5, 3, -1);
        s.call("keep");
        for (int told : right(s, 3)) {
            s.call("tell", told);
        }
        s.call("run", 2).call("sheet", 0, 0, 3).call("sheet", 1, 2, 24).call("sheet", 2, 2, 0).call("mark", 0, 2, -40000);
        s.call("mark", 1, 23, MIN).call("lay", 0, 1, 2).call("lay", 1, 2, 0).call("lay", 2, 3, MIN).call("lay", 4, 2, 1);
        return s.tape("read 2 p*(f+1)");
    }

    private static List<Integer> right(Script s, int steps) {
        List<Integer> told = s.model().dueFromImage(steps);
        DUE.holds(s + " has steps to tell", told.size() == 2 * steps);
        return told;
    }

    private static Script full() {
        Script s = new Script("full");
        for (int join = 0; join < 2; join++) {
            int[] kinds = {5, 3, 2, 1, 2, 1};
            for (int i = 0; i < 6; i++) {
                s.call("part", kinds[i], i == 0 ? join : 1 - join, 11 + 11 * i);
            }
        }
        s.call("bond", 0, 6);
        for (int i = 0; i < 12; i++) {
            if (i % 6 != 0) {
                s.call("bond", i - i % 6, i);
            }
        }
        s.call("bond", 6, 0);
        for (int i = 0; i < 14; i++) {
            s.text(i < 6 ? "give " + 2 * i + " t" : "read " + (i - 2) + " p");
        }
        s.call("set", 3, 3, 5).call("keep");
        for (int told : right(s, 30)) {
            s.call("tell", told);
        }
        for (int sheet = 0; sheet < 4; sheet++) {
            s.call("sheet", sheet, sheet % 3, 24);
        }
        for (int slot = 0; slot < 5; slot++) {
            s.call("lay", slot, 1 + slot % 3, slot % 4);
        }
        s.call("run", 1);
        return s.tape("give 0 " + "h+".repeat(44) + "t");
    }

    private static Script notWhole() {
        return rich().then("not whole").call("part", 2, 0, 11);
    }

    private static Script many() {
        return rich().then("many").call("part", 3, 0, 11).call("part", 3, 0, 11).call("bond", 7, 8);
    }

    private static Script none() {
        return many().then("none").call("set", 8, 3, 1).call("keep");
    }

    private static Script clash() {
        return new Script("clash").call("part", 3, 1, 11).call("part", 3, 1, 11).call("bond", 0, 1).text("give 0 1").text("read 0 1").call("keep");
    }

    private static Script last() {
        Script s = new Script("the last step").call("part", 1, 0, 11).call("part", 3, 1, 11).call("bond", 1, 0).text("give 1 1").text("read 0 t");
        for (int i = 0; i < 166; i++) {
            s.call("run", 60);
        }
        return s.call("run", 39).call("keep");
    }

    private static List<int[]> all(int[][] values) {
        List<int[]> all = new ArrayList<>();
        all.add(new int[0]);
        for (int[] next : values) {
            List<int[]> longer = new ArrayList<>();
            for (int[] row : all) {
                for (int v : next) {
                    int[] more = Arrays.copyOf(row, row.length + 1);
                    more[row.length] = v;
                    longer.add(more);
                }
            }
            all = longer;
        }
        return all;
    }

    /** An answer that only a call that is refused gives; text tells its faults below 0. */
    private static boolean isRefusal(String name, int answer) {
        return answer <= Model.BAD && answer >= Model.SIZE || name.equals("text") && answer < 0;
    }

    /** As long as calls change nothing, one object answers them all. */
    private static void look(Script state, String name, int[][] values) {
        List<int[]> changeNothing = new ArrayList<>();
        Model model = state.model();
        PowerBonds program = state.program();
        int calls = state.size();
        for (int[] with : all(values)) {
            int want = Script.ask(model, name, with);
            DUE.due(state + ": " + name + Arrays.toString(with), Script.ask(program, name, with), want);
            calls++;
            boolean same = isRefusal(name, want) && !name.equals("text") && !name.equals("check") || ASK_ALONE.contains(name);
            if (isRefusal(name, want) || ASK_ALONE.contains(name)) {
                changeNothing.add(with);
            }
            if (!same || calls >= 500) {
                model = same ? model : state.model();
                program = state.program();
                calls = state.size();
            }
        }
        for (int at = 0; at < changeNothing.size(); at += CHUNK) {
            stays(state, name, changeNothing.subList(at, Math.min(changeNothing.size(), at + CHUNK)));
        }
    }

    private static void stays(Script state, String name, List<int[]> calls) {
        for (int view = 0; view < Views.ALL; view++) {
            boolean usedUp = view == Views.TAPE && name.equals("text") || view == Views.WAITING && name.equals("check");
            if (usedUp) {
                continue;
            }
            List<Integer> ahead = Views.of(state.program(), view);
            PowerBonds x = state.program();
            for (int[] with : calls) {
                Script.ask(x, name, with);
            }
            compared++;
            if (!Views.of(x, view).equals(ahead)) {
                DUE.holds(state + ": view " + view + " stays behind " + calls.size() + " calls of " + name + " from "
                    + Arrays.toString(calls.get(0)) + " on", false);
            }
        }
    }
}
