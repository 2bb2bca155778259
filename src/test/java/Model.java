import java.math.BigInteger;
import java.util.ArrayDeque;
import java.util.ArrayList;
import java.util.Arrays;
import java.util.Deque;
import java.util.HashMap;
import java.util.List;
import java.util.Map;

/** The document once more, written in other ways than the program: slow, with lists, for tests to compare with. */
final class Model {
    static final int BAD = -1000000001, NO = -1000000002, FULL = -1000000003, NONE = -1000000005, MANY = -1000000006;
    static final int CLASH = -1000000007, NOTHING = -1000000011, KIND = -1000000012, INDEX = -1000000013, SIZE = -1000000014;
    private static final BigInteger P = BigInteger.valueOf(1000003);

    /** A part: kind, sort, a, b, hold. A bond: from, to. */
    private static final class State {
        List<int[]> parts = new ArrayList<>();
        List<int[]> bonds = new ArrayList<>();
        List<ModelText> texts = new ArrayList<>();
        int step;

        State twin() {
            State twin = new State();
            parts.forEach(part -> twin.parts.add(part.clone()));
            bonds.forEach(bond -> twin.bonds.add(bond.clone()));
            twin.texts.addAll(texts);
            twin.step = step;
            return twin;
        }
    }

    private State now = new State();
    private State image;
    private final List<Byte> tape = new ArrayList<>();
    private final List<Integer> waiting = new ArrayList<>();
    private final Object[] sheets = new Object[4];
    private final Object[] slots = new Object[5];

    private static int w(long number) {
        return BigInteger.valueOf(number).mod(P).intValueExact();
    }

    private static int ratio(long a, long b) {
        return BigInteger.valueOf(a).multiply(BigInteger.valueOf(b).modInverse(P)).mod(P).intValueExact();
    }

    private static boolean in(int v, int least, int most) {
        return least <= v && v <= most;
    }

    private boolean noPart(int part) {
        return !in(part, 0, now.parts.size() - 1);
    }

    private boolean noBond(int bond) {
        return !in(bond, 0, now.bonds.size() - 1);
    }

    private static boolean under(int kind, int wanted) {
        return switch (wanted) {
            case 0 -> true;
            case 2 -> kind == 2 || kind == 3;
            case 4 -> kind == 4 || kind == 5;
            default -> kind == wanted;
        };
    }

    private static boolean share(int share) {
        return in(share / 10, 1, 9) && in(share % 10, 1, 9);
    }

    private static List<Integer> bondsOf(State s, int part) {
        List<Integer> list = new ArrayList<>();
        for (int i = 0; i < s.bonds.size(); i++) {
            if (s.bonds.get(i)[0] == part || s.bonds.get(i)[1] == part) {
                list.add(i);
            }
        }
        return list;
    }

    private static boolean fits(State s, int part) {
        int ends = bondsOf(s, part).size();
        return switch (s.parts.get(part)[0]) {
            case 4 -> ends == 2;
            case 5 -> in(ends, 2, 12);
            default -> ends == 1;
        };
    }

    private static boolean isWhole(State s) {
        boolean good = !s.bonds.isEmpty();
        for (int i = 0; i < s.parts.size(); i++) {
            good &= fits(s, i);
        }
        return good;
    }

    // ---- laws: unknown i is the push of bond i, unknown n + i its pace, unknown 2n stands for 1

    private static final class Laws {
        final int n;
        final List<long[]> solved = new ArrayList<>();
        final List<Integer> leads = new ArrayList<>();
        boolean contradiction;

        Laws(int n) {
            this.n = n;
        }

        /** A law: pairs of an unknown and how often it counts, all together 0. */
        void law(long... pairs) {
            long[] row = new long[2 * n + 1];
            for (int i = 0; i < pairs.length; i += 2) {
                row[(int) pairs[i]] = w(row[(int) pairs[i]] + pairs[i + 1]);
            }
            for (int i = 0; i < solved.size(); i++) {
                subtract(row, solved.get(i), leads.get(i));
            }
            int lead = -1;
            for (int i = 0; i < 2 * n; i++) {
                lead = row[i] != 0 ? i : lead;
            }
            if (lead < 0) {
                contradiction |= row[2 * n] != 0;
                return;
            }
            long by = row[lead];
            for (int i = 0; i <= 2 * n; i++) {
                row[i] = ratio(row[i], by);
            }
            for (long[] other : solved) {
                subtract(other, row, lead);
            }
            solved.add(row);
            leads.add(lead);
        }

        private static void subtract(long[] row, long[] other, int lead) {
            long times = row[lead];
            for (int i = 0; times != 0 && i < row.length; i++) {
                row[i] = w(row[i] - times * other[i]);
            }
        }

        /** Pushes and paces; a single number if there is not just one answer. */
        int[] result() {
            if (contradiction) {
                return new int[] {NO};
            }
            if (solved.size() < 2 * n) {
                return new int[] {MANY};
            }
            int[] result = new int[2 * n];
            for (int i = 0; i < 2 * n; i++) {
                result[leads.get(i)] = w(-solved.get(i)[2 * n]);
            }
            return result;
        }
    }

    private static int[] answer(State s) {
        if (!isWhole(s)) {
            return new int[] {NO};
        }
        int n = s.bonds.size();
        Laws laws = new Laws(n);
        for (int p = 0; p < s.parts.size(); p++) {
            int[] part = s.parts.get(p);
            List<Integer> bonds = bondsOf(s, p);
            int push = bonds.get(0);
            int pace = n + push;
            long share = ratio(part[2], part[3]);
            long hold = part[4];
            boolean plain = part[1] == 0;
            switch (part[0]) {
                case 0 -> laws.law(plain ? push : pace, 1);
                case 1 -> laws.law(plain ? push : pace, 1, 2 * n, -share * hold);
                case 2 -> laws.law(plain ? push : pace, 1, plain ? pace : push, -share);
                case 3 -> laws.law(plain ? push : pace, 1, 2 * n, -hold);
                case 4 -> {
                    int j = bonds.get(1);
                    if (plain) {
                        laws.law(push, 1, j, -share);
                        laws.law(n + j, 1, pace, -share);
                    } else {
                        laws.law(push, 1, n + j, -share);
                        laws.law(j, 1, pace, -share);
                    }
                }
                default -> {
                    long[] sum = new long[2 * bonds.size()];
                    for (int i = 0; i < bonds.size(); i++) {
                        int b = bonds.get(i);
                        sum[2 * i] = plain ? n + b : b;
                        sum[2 * i + 1] = s.bonds.get(b)[1] == p ? 1 : -1;
                        if (i > 0) {
                            int before = bonds.get(i - 1);
                            laws.law(plain ? b : n + b, 1, plain ? before : n + before, -1);
                        }
                    }
                    laws.law(sum);
                }
            }
        }
        return laws.result();
    }

    private static boolean canBe(State s, int bits) {
        for (int p = 0; p < s.parts.size(); p++) {
            int kind = s.parts.get(p)[0];
            int sort = s.parts.get(p)[1];
            int ends = bondsOf(s, p).size();
            int settles = settles(s, p, bits);
            boolean good = true;
            if (kind == 3) {
                good = sort == 0 ? settles == 1 : settles == 0;
            } else if (kind == 4) {
                good = sort == 0 ? settles == 1 : settles == 0 || settles == 2;
            } else if (kind == 5) {
                good = sort == 0 ? settles == ends - 1 : settles == 1;
            }
            if (!good) {
                return false;
            }
        }
        return true;
    }

    private static int settler(State s, int bond, int bits) {
        return s.bonds.get(bond)[(bits & 1 << bond) != 0 ? 1 : 0];
    }

    private static int settles(State s, int part, int bits) {
        int many = 0;
        for (int b = 0; b < s.bonds.size(); b++) {
            many += settler(s, b, bits) == part ? 1 : 0;
        }
        return many;
    }

    private static int tied(State s, int bits) {
        int tied = 0;
        for (int p = 0; p < s.parts.size(); p++) {
            boolean settles = settles(s, p, bits) == 1;
            if (s.parts.get(p)[0] == 1 && settles != (s.parts.get(p)[1] == 0)) {
                tied |= 1 << p;
            }
        }
        return tied;
    }

    private static List<Integer> lineUps(State s) {
        List<Integer> can = new ArrayList<>();
        for (int bits = 0; bits < 1 << s.bonds.size(); bits++) {
            if (canBe(s, bits)) {
                can.add(bits);
            }
        }
        return can;
    }

    private static int best(State s, List<Integer> can) {
        int best = can.get(0);
        for (int bits : can) {
            if (Integer.bitCount(tied(s, bits)) < Integer.bitCount(tied(s, best))) {
                best = bits;
            }
        }
        return best;
    }

    private static ModelText counts(State s, int key, int of) {
        ModelText counts = null;
        for (ModelText text : s.texts) {
            counts = text.key == key && text.of == of ? text : counts;
        }
        return counts;
    }

    private static void obey(State s, int p) {
        ModelText text = counts(s, 0, p);
        if (p < s.parts.size() && s.parts.get(p)[0] == 3 && text != null) {
            int[] part = s.parts.get(p);
            part[4] = w(text.gives(Map.of("t", s.step, "h", part[4])));
        }
    }

    private static void step(State s, int[] answer) {
        int n = s.bonds.size();
        for (int p = 0; p < s.parts.size(); p++) {
            int[] part = s.parts.get(p);
            if (part[0] == 1) {
                int b = bondsOf(s, p).get(0);
                part[4] = w((long) part[4] + answer[part[1] == 0 ? n + b : b]);
            }
        }
        s.step++;
        for (int p = 0; p < s.parts.size(); p++) {
            obey(s, p);
        }
    }

    private static int together(State s) {
        long sum = 0;
        for (int[] part : s.parts) {
            sum += part[0] == 1 ? part[4] : 0;
        }
        return w(sum);
    }

    // ---- the calls

    int part(int kind, int sort, int share) {
        if (!in(kind, 0, 5) || !in(sort, 0, 1) || !share(share)) {
            return BAD;
        }
        if (now.parts.size() == 12) {
            return FULL;
        }
        now.parts.add(new int[] {kind, sort, share / 10, share % 10, 0});
        return now.parts.size() - 1;
    }

    int told(int part, int what) {
        if (noPart(part) || !in(what, 0, 6)) {
            return BAD;
        }
        int[] p = now.parts.get(part);
        return switch (what) {
            case 0 -> p[0];
            case 1 -> p[1];
            case 2 -> p[2] * 10 + p[3];
            case 3 -> p[4];
            case 4 -> bondsOf(now, part).size();
            case 5 -> fits(now, part) ? 1 : 0;
            default -> ratio(p[2], p[3]);
        };
    }

    int as(int part, int kind) {
        if (noPart(part) || !in(kind, 0, 5)) {
            return BAD;
        }
        return under(now.parts.get(part)[0], kind) ? now.parts.get(part)[4] : KIND;
    }

    int set(int part, int what, int v) {
        if (noPart(part) || !in(what, 2, 3) || what == 2 && !share(v)) {
            return BAD;
        }
        int was = told(part, what);
        int[] p = now.parts.get(part);
        if (what == 2) {
            p[2] = v / 10;
            p[3] = v % 10;
        } else {
            p[4] = w(v);
        }
        return was;
    }

    int bond(int from, int to) {
        if (noPart(from) || noPart(to) || from == to) {
            return BAD;
        }
        if (now.bonds.size() == 12) {
            return FULL;
        }
        now.bonds.add(new int[] {from, to});
        return now.bonds.size() - 1;
    }

    int breaks(int bond) {
        if (noBond(bond)) {
            return BAD;
        }
        now.bonds.remove(bond);
        return now.bonds.size();
    }

    int of(int bond, int what) {
        if (noBond(bond) || !in(what, 0, 5)) {
            return BAD;
        }
        if (what < 2) {
            return now.bonds.get(bond)[what];
        }
        if (what == 5) {
            int bits = strokes(0);
            return bits < 0 ? bits : settler(now, bond, bits);
        }
        int[] answer = answer(now);
        if (answer.length == 1) {
            return answer[0];
        }
        long push = answer[bond];
        long pace = answer[now.bonds.size() + bond];
        return what == 2 ? (int) push : what == 3 ? (int) pace : w(push * pace);
    }

    int whole() {
        return isWhole(now) ? 1 : 0;
    }

    int answers() {
        int[] answer = answer(now);
        return answer.length == 1 ? answer[0] : 1;
    }

    int strokes(int what) {
        if (!in(what, 0, 3)) {
            return BAD;
        }
        if (!isWhole(now)) {
            return NO;
        }
        List<Integer> can = lineUps(now);
        if (what == 3) {
            return can.size();
        }
        if (can.isEmpty()) {
            return CLASH;
        }
        int best = best(now, can);
        int tied = tied(now, best);
        return what == 0 ? best : what == 2 ? tied : count(2) - Integer.bitCount(tied);
    }

    int can(int bits) {
        if (!in(bits, 0, (1 << now.bonds.size()) - 1)) {
            return BAD;
        }
        return !isWhole(now) ? NO : canBe(now, bits) ? 1 : 0;
    }

    int run(int n) {
        if (!in(n, 1, 60)) {
            return BAD;
        }
        if (now.step + n > 9999) {
            return FULL;
        }
        State was = now.twin();
        for (int i = 0; i < n; i++) {
            int[] answer = answer(now);
            if (answer.length == 1) {
                now = was;
                return answer[0];
            }
            step(now, answer);
        }
        return now.step;
    }

    int feed(int a, int b, int c) {
        if (tape.size() > 84) {
            return FULL;
        }
        for (int number : new int[] {a, b, c}) {
            for (byte one : BigInteger.valueOf((number & 0xFFFFFFFFL) + (1L << 32)).toByteArray()) {
                tape.add(one);
            }
            tape.remove(tape.size() - 5);
        }
        return tape.size();
    }

    int trim(int n) {
        if (!in(n, 0, tape.size())) {
            return BAD;
        }
        tape.subList(n, tape.size()).clear();
        return n;
    }

    int text() {
        StringBuilder told = new StringBuilder();
        tape.forEach(one -> told.append((char) (one & 255)));
        tape.clear();
        ModelText text = new ModelText(told.toString());
        if (text.fault >= 0) {
            return -100 - text.fault;
        }
        if (now.texts.size() == 14) {
            return FULL;
        }
        now.texts.add(text);
        if (text.key == 0) {
            obey(now, text.of);
        }
        return now.texts.size() - 1;
    }

    int textTold(int text, int what) {
        if (!in(text, 0, now.texts.size() - 1) || !in(what, 0, 2)) {
            return BAD;
        }
        ModelText t = now.texts.get(text);
        return what == 0 ? t.key : what == 1 ? t.of : t.operands;
    }

    int why(int key, int of) {
        if (!in(key, 0, 1) || !in(of, 0, 11)) {
            return BAD;
        }
        ModelText text = counts(now, key, of);
        return text == null ? NONE : now.texts.lastIndexOf(text);
    }

    int read(int bond) {
        if (noBond(bond)) {
            return BAD;
        }
        ModelText text = counts(now, 1, bond);
        if (text == null) {
            return NONE;
        }
        int[] answer = answer(now);
        if (answer.length == 1) {
            return answer[0];
        }
        return text.gives(Map.of("t", now.step, "p", answer[bond], "f", answer[now.bonds.size() + bond]));
    }

    int moves(int give, int bond, int what) {
        if (noPart(give) || now.parts.get(give)[0] != 3 || noBond(bond) || !in(what, 0, 1)) {
            return BAD;
        }
        State other = now.twin();
        other.parts.forEach(part -> part[4] = 0);
        other.parts.get(give)[4] = 1;
        int[] answer = answer(other);
        return answer.length == 1 ? answer[0] : answer[what * now.bonds.size() + bond];
    }

    int signs(int part) {
        if (noPart(part)) {
            return BAD;
        }
        int[] before = answer(now);
        if (before.length == 1) {
            return before[0];
        }
        State other = now.twin();
        other.parts.get(part)[2]++;
        int[] after = answer(other);
        if (after.length == 1) {
            return after[0];
        }
        int bits = 0;
        for (int i = 0; i < before.length; i++) {
            bits |= before[i] != after[i] ? 1 << i % now.bonds.size() : 0;
        }
        return bits;
    }

    int apart(int one, int other) {
        if (noPart(one) || noPart(other) || one == other) {
            return BAD;
        }
        int a = signs(one);
        int b = signs(other);
        return a < 0 ? a : b < 0 ? b : a == b ? 0 : 1;
    }

    int dual() {
        int many = 0;
        for (int[] part : now.parts) {
            if (part[0] == 4) {
                part[2] += part[3];
                part[3] = part[2] - part[3];
                part[2] -= part[3];
            } else {
                part[1] ^= 1;
                many++;
            }
        }
        return many;
    }

    private Map<Integer, Integer> waysFrom(int one) {
        Map<Integer, Integer> far = new HashMap<>();
        Deque<Integer> next = new ArrayDeque<>();
        far.put(one, 0);
        next.add(one);
        while (!next.isEmpty()) {
            int at = next.remove();
            for (int b : bondsOf(now, at)) {
                int beyond = now.bonds.get(b)[0] + now.bonds.get(b)[1] - at;
                if (far.putIfAbsent(beyond, far.get(at) + 1) == null) {
                    next.add(beyond);
                }
            }
        }
        return far;
    }

    int rings() {
        int pieces = 0;
        for (int p = 0; p < now.parts.size(); p++) {
            int least = waysFrom(p).keySet().stream().min(Integer::compare).orElse(p);
            pieces += least == p ? 1 : 0;
        }
        return now.bonds.size() - now.parts.size() + pieces;
    }

    int way(int one, int other) {
        return noPart(one) || noPart(other) ? BAD : waysFrom(one).getOrDefault(other, NONE);
    }

    int worth(int what, int a, int b) {
        if (!in(what, 0, 1)) {
            return BAD;
        }
        return what == 0 ? w(a) : w(b) == 0 ? NO : ratio(a, b);
    }

    private static int length(Object row) {
        return row instanceof short[] s ? s.length : row instanceof int[] i ? i.length : ((long[]) row).length;
    }

    private static int at(Object row, int place) {
        return row instanceof short[] s ? s[place] : row instanceof int[] i ? i[place] : (int) ((long[]) row)[place];
    }

    private static Object twinOf(Object row) {
        return row instanceof short[] s ? s.clone() : row instanceof int[] i ? i.clone() : ((long[]) row).clone();
    }

    int sheet(int sheet, int sort, int n) {
        if (!in(sheet, 0, 3) || !in(sort, -1, 2) || sort >= 0 && n > 24) {
            return BAD;
        }
        if (sort >= 0 && n < 0) {
            return SIZE;
        }
        sheets[sheet] = sort == 0 ? new short[n] : sort == 1 ? new int[n] : sort == 2 ? new long[n] : null;
        return sort < 0 ? 0 : n;
    }

    int mark(int sheet, int place, int v) {
        if (!in(sheet, 0, 3)) {
            return BAD;
        }
        Object row = sheets[sheet];
        if (row == null) {
            return NOTHING;
        }
        if (!in(place, 0, length(row) - 1)) {
            return INDEX;
        }
        int was = at(row, place);
        if (row instanceof short[] s) {
            s[place] = (short) v;
        } else if (row instanceof int[] i) {
            i[place] = v;
        } else {
            ((long[]) row)[place] = v;
        }
        return was;
    }

    int pour(int sheet) {
        if (!in(sheet, 0, 3)) {
            return BAD;
        }
        if (sheets[sheet] == null) {
            return NOTHING;
        }
        int place = 0;
        for (int[] part : now.parts) {
            if (part[0] == 1 && place < length(sheets[sheet])) {
                part[4] = w(at(sheets[sheet], place++));
            }
        }
        return place;
    }

    int copy(int from, int place, int to, int at, int many) {
        if (!in(from, 0, 3) || !in(to, 0, 3)) {
            return BAD;
        }
        if (sheets[from] == null || sheets[to] == null) {
            return NOTHING;
        }
        try {
            System.arraycopy(sheets[from], place, sheets[to], at, many);
            return many;
        } catch (ArrayStoreException e) {
            return KIND;
        } catch (IndexOutOfBoundsException e) {
            return INDEX;
        }
    }

    /** A slot: a part is a String, a sheet its row, a number an Integer. */
    int lay(int slot, int thing, int k) {
        if (!in(slot, 0, 4) || !in(thing, 0, 3) || thing == 1 && noPart(k) || thing == 2 && !in(k, 0, 3)) {
            return BAD;
        }
        if (thing == 2 && sheets[k] == null) {
            return NOTHING;
        }
        Object was = slots[slot];
        slots[slot] = switch (thing) {
            case 0 -> null;
            case 1 -> Arrays.toString(now.parts.get(k));
            case 2 -> twinOf(sheets[k]);
            default -> k;
        };
        return was == null ? 0 : was instanceof String ? 1 : was instanceof Integer ? 3 : 2;
    }

    int ask(int slot, int kind) {
        if (!in(slot, 0, 4) || !in(kind, 0, 5)) {
            return BAD;
        }
        if (slots[slot] == null) {
            return NOTHING;
        }
        if (!(slots[slot] instanceof String part) || !under(part.charAt(1) - '0', kind)) {
            return KIND;
        }
        return ratio(part.charAt(7) - '0', part.charAt(10) - '0');
    }

    int item(int slot, int place) {
        if (!in(slot, 0, 4)) {
            return BAD;
        }
        Object held = slots[slot];
        if (held == null) {
            return NOTHING;
        }
        if (held instanceof String || held instanceof Integer) {
            return KIND;
        }
        return in(place, 0, length(held) - 1) ? at(held, place) : INDEX;
    }

    int rest(int slot, int n) {
        if (!in(slot, 0, 4)) {
            return BAD;
        }
        if (slots[slot] == null) {
            return NOTHING;
        }
        if (!(slots[slot] instanceof Integer number)) {
            return KIND;
        }
        return n == 0 ? NO : BigInteger.valueOf(number).remainder(BigInteger.valueOf(n)).intValueExact();
    }

    int tell(int v) {
        if (waiting.size() == 60) {
            return FULL;
        }
        waiting.add(v);
        return waiting.size();
    }

    int check(int n) {
        List<Integer> came = new ArrayList<>(waiting);
        waiting.clear();
        if (!in(n, 1, 30)) {
            return BAD;
        }
        if (image == null) {
            return NO;
        }
        List<Integer> due = stepsTold(image.twin(), n);
        if (due == null) {
            return NO;
        }
        int alike = 0;
        while (alike < came.size() && alike < due.size() && came.get(alike).equals(due.get(alike))) {
            alike++;
        }
        return alike == came.size() && alike == due.size() ? 0 : alike + 1;
    }

    private static List<Integer> stepsTold(State s, int n) {
        List<Integer> told = new ArrayList<>();
        for (int i = 0; i < n; i++) {
            int[] answer = answer(s);
            if (answer.length == 1) {
                return null;
            }
            step(s, answer);
            answer = answer(s);
            if (answer.length == 1) {
                return null;
            }
            told.add(together(s));
            told.add(answer[0]);
        }
        return told;
    }

    /** For tests that want to tell the right numbers: none if there are none. */
    List<Integer> dueFromImage(int n) {
        List<Integer> told = image == null ? null : stepsTold(image.twin(), n);
        return told == null ? List.of() : told;
    }

    int keep() {
        image = now.twin();
        return now.step;
    }

    int back() {
        if (image == null) {
            return NO;
        }
        now = image.twin();
        return now.step;
    }

    int count(int what) {
        return switch (what) {
            case 0 -> now.parts.size();
            case 1 -> now.bonds.size();
            case 2 -> (int) now.parts.stream().filter(part -> part[0] == 1).count();
            case 3 -> together(now);
            case 4 -> now.texts.size();
            case 5 -> waiting.size();
            case 6 -> tape.size();
            case 7 -> now.step;
            default -> BAD;
        };
    }
}
