import java.util.Arrays;

/** Machines of parts and bonds, as ../shared/DOC.md tells; each method there is one promise. */
public final class PowerBonds {
    public static final int BAD = -1000000001, NO = -1000000002, FULL = -1000000003, NONE = -1000000005, MANY = -1000000006, CLASH = -1000000007, NOTHING = -1000000011, KIND = -1000000012, INDEX = -1000000013, SIZE = -1000000014;

    private static final int PRIME = 1000003;
    private static final int MAX_PARTS = 12, MAX_BONDS = 12, MAX_TEXTS = 14, MAX_TAPE = 96, MAX_WAITING = 60;
    private static final int MAX_STEP = 9999, MAX_RUN = 60, MAX_CHECK = 30;
    private static final int SHEETS = 4, MAX_PLACES = 24, SLOTS = 5;
    private static final int MAX_DIGITS = 4, MAX_NESTED = 8;

    private static final int PART = 0, STORE = 1, LOSS = 2, GIVE = 3, TURN = 4, JOIN = 5, KINDS = 6;
    /** The kind that each kind stands right under. */
    private static final int[] ABOVE = {-1, PART, PART, LOSS, PART, TURN};

    private static final int KEY_GIVE = 0, KEY_READ = 1;
    private static final int MISSING = -1, SHORTS = 0, LONGS = 2;
    private static final int HOLDS_NOTHING = 0, HOLDS_PART = 1, HOLDS_SHEET = 2, HOLDS_NUMBER = 3;
    private static final int ONE_ANSWER = 1;
    private static final int ABSENT = -1;

    private final Machine machine = new Machine();
    private final Machine image = new Machine();
    /** Where steps, moves and signs are tried, so that what is refused changes nothing. */
    private final Machine trial = new Machine();
    private final Answer answer = new Answer();
    private final Answer otherAnswer = new Answer();
    private final LineUps lineUps = new LineUps();
    private final Tape tape = new Tape();
    /** Where texts are worked out. */
    private final int[] desk = new int[MAX_TAPE];
    private final int[] waiting = new int[MAX_WAITING];
    private final Sheet[] sheets = new Sheet[SHEETS];
    private final Slot[] slots = new Slot[SLOTS];
    private int waitingCount;
    private boolean imageKept;

    public PowerBonds() {
        for (int i = 0; i < SHEETS; i++) {
            sheets[i] = new Sheet();
        }
        for (int i = 0; i < SLOTS; i++) {
            slots[i] = new Slot();
        }
    }

    // ---- parts, bonds

    public int part(int kind, int sort, int share) {
        if (!isKind(kind) || sort < 0 || sort > 1 || !isShare(share)) {
            return BAD;
        }
        if (machine.partCount >= MAX_PARTS) {
            return FULL;
        }
        machine.parts[machine.partCount].become(kind, sort, share);
        machine.partCount++;
        return machine.partCount - 1;
    }

    public int told(int part, int what) {
        if (!machine.hasPart(part)) {
            return BAD;
        }
        Part asked = machine.parts[part];
        switch (what) {
            case 0: return asked.kind;
            case 1: return asked.sort;
            case 2: return asked.shareCode();
            case 3: return asked.hold;
            case 4: return machine.endsOf(part);
            case 5: return asked.wants(machine.endsOf(part)) ? 1 : 0;
            case 6: return asked.shareWorth();
            default: return BAD;
        }
    }

    public int as(int part, int kind) {
        if (!machine.hasPart(part) || !isKind(kind)) {
            return BAD;
        }
        Part asked = machine.parts[part];
        return asked.isOf(kind) ? asked.hold : KIND;
    }

    public int set(int part, int what, int v) {
        if (!machine.hasPart(part)) {
            return BAD;
        }
        Part changed = machine.parts[part];
        if (what == 2 && isShare(v)) {
            int was = changed.shareCode();
            changed.takeShare(v);
            return was;
        }
        if (what == 3) {
            int was = changed.hold;
            changed.hold = worthOf(v);
            return was;
        }
        return BAD;
    }

    public int bond(int from, int to) {
        if (!machine.hasPart(from) || !machine.hasPart(to) || from == to) {
            return BAD;
        }
        if (machine.bondCount >= MAX_BONDS) {
            return FULL;
        }
        machine.from[machine.bondCount] = from;
        machine.to[machine.bondCount] = to;
        machine.bondCount++;
        return machine.bondCount - 1;
    }

    public int breaks(int bond) {
        if (!machine.hasBond(bond)) {
            return BAD;
        }
        machine.dropBond(bond);
        return machine.bondCount;
    }

    public int of(int bond, int what) {
        if (!machine.hasBond(bond) || what < 0 || what > 5) {
            return BAD;
        }
        if (what == 0) {
            return machine.from[bond];
        }
        if (what == 1) {
            return machine.to[bond];
        }
        return what == 5 ? settlerOf(bond) : carriedBy(bond, what);
    }

    public int whole() {
        return machine.isWhole() ? 1 : 0;
    }

    public int answers() {
        return answer.solve(machine);
    }

    public int strokes(int what) {
        if (what < 0 || what > 3) {
            return BAD;
        }
        if (!machine.isWhole()) {
            return NO;
        }
        lineUps.survey(machine);
        if (what == 3) {
            return lineUps.possible;
        }
        if (lineUps.possible == 0) {
            return CLASH;
        }
        if (what == 0) {
            return lineUps.best;
        }
        return what == 1 ? lineUps.bestSumming : lineUps.tiedStores(machine);
    }

    public int can(int bits) {
        if (bits < 0 || bits >= 1 << machine.bondCount) {
            return BAD;
        }
        if (!machine.isWhole()) {
            return NO;
        }
        lineUps.lookAt(machine);
        return lineUps.firstAgainst(machine, bits) == ABSENT ? 1 : 0;
    }

    // ---- steps

    public int run(int n) {
        if (n < 1 || n > MAX_RUN) {
            return BAD;
        }
        if (machine.step + n > MAX_STEP) {
            return FULL;
        }
        trial.takeFrom(machine);
        for (int i = 0; i < n; i++) {
            int found = answer.solve(trial);
            if (found != ONE_ANSWER) {
                return found;
            }
            trial.doStep(answer, desk);
        }
        machine.takeFrom(trial);
        return machine.step;
    }

    public int feed(int a, int b, int c) {
        if (tape.size + 12 > MAX_TAPE) {
            return FULL;
        }
        tape.putBytes(a);
        tape.putBytes(b);
        tape.putBytes(c);
        return tape.size;
    }

    public int trim(int n) {
        if (n < 0 || n > tape.size) {
            return BAD;
        }
        tape.size = n;
        return n;
    }

    public int text() {
        Text come = tape.parse();
        tape.size = 0;
        if (come == null) {
            return -100 - tape.place;
        }
        if (machine.textCount >= MAX_TEXTS) {
            return FULL;
        }
        machine.texts[machine.textCount] = come;
        machine.textCount++;
        if (come.key == KEY_GIVE) {
            machine.followText(come.target, desk);
        }
        return machine.textCount - 1;
    }

    public int textTold(int text, int what) {
        if (text < 0 || text >= machine.textCount) {
            return BAD;
        }
        Text asked = machine.texts[text];
        if (asked == null) {
            return BAD;
        }
        switch (what) {
            case 0: return asked.key;
            case 1: return asked.target;
            case 2: return asked.operands;
            default: return BAD;
        }
    }

    public int why(int key, int of) {
        boolean partThere = key == KEY_GIVE && of >= 0 && of < MAX_PARTS;
        boolean bondThere = key == KEY_READ && of >= 0 && of < MAX_BONDS;
        if (!partThere && !bondThere) {
            return BAD;
        }
        int counting = machine.textFor(key, of);
        return counting == ABSENT ? NONE : counting;
    }

    public int read(int bond) {
        if (!machine.hasBond(bond)) {
            return BAD;
        }
        int counting = machine.textFor(KEY_READ, bond);
        if (counting == ABSENT) {
            return NONE;
        }
        int found = answer.solve(machine);
        if (found != ONE_ANSWER) {
            return found;
        }
        return machine.textGives(counting, desk, answer.push[bond], answer.pace[bond]);
    }

    // ---- what moves what

    public int moves(int give, int bond, int what) {
        if (!machine.hasPart(give) || machine.parts[give].kind != GIVE) {
            return BAD;
        }
        if (!machine.hasBond(bond) || what < 0 || what > 1) {
            return BAD;
        }
        trial.takeFrom(machine);
        for (int i = 0; i < trial.partCount; i++) {
            trial.parts[i].hold = i == give ? 1 : 0;
        }
        int found = answer.solve(trial);
        if (found != ONE_ANSWER) {
            return found;
        }
        return what == 0 ? answer.push[bond] : answer.pace[bond];
    }

    public int signs(int part) {
        return machine.hasPart(part) ? signsOf(part) : BAD;
    }

    public int apart(int one, int other) {
        if (!machine.hasPart(one) || !machine.hasPart(other) || one == other) {
            return BAD;
        }
        int signsOfOne = signsOf(one);
        if (signsOfOne < 0) {
            return signsOfOne;
        }
        int signsOfOther = signsOf(other);
        if (signsOfOther < 0) {
            return signsOfOther;
        }
        return signsOfOne != signsOfOther ? 1 : 0;
    }

    public int dual() {
        int changed = 0;
        for (int i = 0; i < machine.partCount; i++) {
            if (machine.parts[i].turnToDual()) {
                changed++;
            }
        }
        return changed;
    }

    public int rings() {
        return machine.bondCount - machine.partCount + machine.pieces();
    }

    public int way(int one, int other) {
        if (!machine.hasPart(one) || !machine.hasPart(other)) {
            return BAD;
        }
        int reached = 1 << one;
        for (int bonds = 0; bonds < MAX_PARTS; bonds++) {
            if ((reached >> other & 1) == 1) {
                return bonds;
            }
            reached = machine.withNeighbours(reached);
        }
        return NONE;
    }

    // ---- worths

    public int worth(int what, int a, int b) {
        if (what < 0 || what > 1) {
            return BAD;
        }
        if (what == 0) {
            return worthOf(a);
        }
        int divisor = worthOf(b);
        return divisor == 0 ? NO : product(worthOf(a), inverse(divisor));
    }

    // ---- sheets, slots

    public int sheet(int sheet, int sort, int n) {
        if (!isSheet(sheet) || sort < MISSING || sort > LONGS) {
            return BAD;
        }
        int places = sort == MISSING ? 0 : n;
        if (places > MAX_PLACES) {
            return BAD;
        }
        if (places < 0) {
            return SIZE;
        }
        sheets[sheet].become(sort, places);
        return places;
    }

    public int mark(int sheet, int place, int v) {
        if (!isSheet(sheet)) {
            return BAD;
        }
        Sheet marked = sheets[sheet];
        if (marked.sort == MISSING) {
            return NOTHING;
        }
        if (!marked.hasPlace(place)) {
            return INDEX;
        }
        int was = marked.places[place];
        marked.places[place] = marked.sort == SHORTS ? (short) v : v;
        return was;
    }

    public int pour(int sheet) {
        if (!isSheet(sheet)) {
            return BAD;
        }
        Sheet poured = sheets[sheet];
        if (poured.sort == MISSING) {
            return NOTHING;
        }
        int done = 0;
        for (int i = 0; i < machine.partCount; i++) {
            if (machine.parts[i].kind == STORE && poured.hasPlace(done)) {
                machine.parts[i].hold = worthOf(poured.places[done]);
                done++;
            }
        }
        return done;
    }

    public int copy(int from, int place, int to, int at, int many) {
        if (!isSheet(from) || !isSheet(to)) {
            return BAD;
        }
        Sheet source = sheets[from];
        Sheet target = sheets[to];
        if (source.sort == MISSING || target.sort == MISSING) {
            return NOTHING;
        }
        if (source.sort != target.sort) {
            return KIND;
        }
        if (!source.hasRow(place, many) || !target.hasRow(at, many)) {
            return INDEX;
        }
        System.arraycopy(source.places, place, target.places, at, many);
        return many;
    }

    public int lay(int slot, int thing, int k) {
        if (!isSlot(slot) || thing < HOLDS_NOTHING || thing > HOLDS_NUMBER) {
            return BAD;
        }
        if (thing == HOLDS_PART && !machine.hasPart(k) || thing == HOLDS_SHEET && !isSheet(k)) {
            return BAD;
        }
        if (thing == HOLDS_SHEET && sheets[k].sort == MISSING) {
            return NOTHING;
        }
        Slot laid = slots[slot];
        int held = laid.thing;
        laid.thing = thing;
        if (thing == HOLDS_PART) {
            laid.heldPart.takeFrom(machine.parts[k]);
        } else if (thing == HOLDS_SHEET) {
            laid.heldSheet.takeFrom(sheets[k]);
        } else {
            laid.number = k;
        }
        return held;
    }

    public int ask(int slot, int kind) {
        if (!isSlot(slot) || !isKind(kind)) {
            return BAD;
        }
        int refusal = slots[slot].refusalFor(HOLDS_PART);
        if (refusal != 0) {
            return refusal;
        }
        Part held = slots[slot].heldPart;
        return held.isOf(kind) ? held.shareWorth() : KIND;
    }

    public int item(int slot, int place) {
        if (!isSlot(slot)) {
            return BAD;
        }
        int refusal = slots[slot].refusalFor(HOLDS_SHEET);
        if (refusal != 0) {
            return refusal;
        }
        Sheet held = slots[slot].heldSheet;
        return held.hasPlace(place) ? held.places[place] : INDEX;
    }

    public int rest(int slot, int n) {
        if (!isSlot(slot)) {
            return BAD;
        }
        int refusal = slots[slot].refusalFor(HOLDS_NUMBER);
        if (refusal != 0) {
            return refusal;
        }
        return n == 0 ? NO : slots[slot].number % n;
    }

    // ---- rows, images

    public int tell(int v) {
        if (waitingCount >= MAX_WAITING) {
            return FULL;
        }
        waiting[waitingCount] = v;
        waitingCount++;
        return waitingCount;
    }

    public int check(int n) {
        int come = waitingCount;
        waitingCount = 0;
        if (n < 1 || n > MAX_CHECK) {
            return BAD;
        }
        if (!imageKept) {
            return NO;
        }
        trial.takeFrom(image);
        if (answer.solve(trial) != ONE_ANSWER) {
            return NO;
        }
        int right = 0;
        for (int i = 0; i < n; i++) {
            trial.doStep(answer, desk);
            if (answer.solve(trial) != ONE_ANSWER) {
                return NO;
            }
            if (right == 2 * i && right < come && waiting[right] == trial.storesTogether()) {
                right++;
            }
            if (right == 2 * i + 1 && right < come && waiting[right] == answer.push[0]) {
                right++;
            }
        }
        return right == 2 * n && come == right ? 0 : 1 + right;
    }

    public int keep() {
        image.takeFrom(machine);
        imageKept = true;
        return image.step;
    }

    public int back() {
        if (!imageKept) {
            return NO;
        }
        machine.takeFrom(image);
        return machine.step;
    }

    public int count(int what) {
        switch (what) {
            case 0: return machine.partCount;
            case 1: return machine.bondCount;
            case 2: return machine.stores();
            case 3: return machine.storesTogether();
            case 4: return machine.textCount;
            case 5: return waitingCount;
            case 6: return tape.size;
            case 7: return machine.step;
            default: return BAD;
        }
    }

    // ---- what the calls share

    private int settlerOf(int bond) {
        if (!machine.isWhole()) {
            return NO;
        }
        lineUps.survey(machine);
        if (lineUps.possible == 0) {
            return CLASH;
        }
        return (lineUps.best >> bond & 1) == 1 ? machine.to[bond] : machine.from[bond];
    }

    private int carriedBy(int bond, int what) {
        int found = answer.solve(machine);
        if (found != ONE_ANSWER) {
            return found;
        }
        if (what == 2) {
            return answer.push[bond];
        }
        return what == 3 ? answer.pace[bond] : product(answer.push[bond], answer.pace[bond]);
    }

    /** Bits of bonds, or below 0 what stands in the way. */
    private int signsOf(int part) {
        int found = answer.solve(machine);
        if (found != ONE_ANSWER) {
            return found;
        }
        trial.takeFrom(machine);
        trial.parts[part].over++;
        found = otherAnswer.solve(trial);
        if (found != ONE_ANSWER) {
            return found;
        }
        int bits = 0;
        for (int i = 0; i < machine.bondCount; i++) {
            if (answer.push[i] != otherAnswer.push[i] || answer.pace[i] != otherAnswer.pace[i]) {
                bits |= 1 << i;
            }
        }
        return bits;
    }

    private static boolean isKind(int kind) {
        return kind >= 0 && kind < KINDS;
    }

    private static boolean isShare(int share) {
        return share >= 11 && share <= 99 && share % 10 != 0;
    }

    private static boolean isSheet(int sheet) {
        return sheet >= 0 && sheet < SHEETS;
    }

    private static boolean isSlot(int slot) {
        return slot >= 0 && slot < SLOTS;
    }

    private static int worthOf(int number) {
        return Math.floorMod(number, PRIME);
    }

    private static int product(long one, long other) {
        return (int) (one * other % PRIME);
    }

    /** By Fermat: the power PRIME - 2 of a worth that is not 0. */
    private static long inverse(long worth) {
        long result = 1;
        long power = worth;
        for (int left = PRIME - 2; left > 0; left >>= 1) {
            if ((left & 1) == 1) {
                result = result * power % PRIME;
            }
            power = power * power % PRIME;
        }
        return result;
    }

    private static final class Part {
        int kind;
        int sort;
        /** The share is over by under. */
        int over;
        int under;
        int hold;

        void become(int newKind, int newSort, int share) {
            kind = newKind;
            sort = newSort;
            takeShare(share);
            hold = 0;
        }

        void takeShare(int share) {
            over = share / 10;
            under = share % 10;
        }

        void takeFrom(Part other) {
            kind = other.kind;
            sort = other.sort;
            over = other.over;
            under = other.under;
            hold = other.hold;
        }

        int shareCode() {
            return 10 * over + under;
        }

        int shareWorth() {
            return product(over, inverse(under));
        }

        boolean isOf(int wanted) {
            int above = kind;
            for (int i = 0; i < KINDS && above >= 0; i++) {
                if (above == wanted) {
                    return true;
                }
                above = ABOVE[above];
            }
            return false;
        }

        boolean wants(int ends) {
            if (kind == JOIN) {
                return ends >= 2 && ends <= MAX_BONDS;
            }
            return ends == (kind == TURN ? 2 : 1);
        }

        /** Whether the sort is another one then. */
        boolean turnToDual() {
            if (kind == TURN) {
                int wasOver = over;
                over = under;
                under = wasOver;
                return false;
            }
            sort = 1 - sort;
            return true;
        }
    }

    /** All that an image keeps: parts, bonds, texts and the step. */
    private static final class Machine {
        final Part[] parts = new Part[MAX_PARTS];
        final int[] from = new int[MAX_BONDS];
        final int[] to = new int[MAX_BONDS];
        final Text[] texts = new Text[MAX_TEXTS];
        int partCount;
        int bondCount;
        int textCount;
        int step;

        Machine() {
            for (int i = 0; i < MAX_PARTS; i++) {
                parts[i] = new Part();
            }
        }

        void takeFrom(Machine other) {
            for (int i = 0; i < other.partCount; i++) {
                parts[i].takeFrom(other.parts[i]);
            }
            for (int i = 0; i < other.bondCount; i++) {
                from[i] = other.from[i];
                to[i] = other.to[i];
            }
            for (int i = 0; i < other.textCount; i++) {
                texts[i] = other.texts[i];
            }
            partCount = other.partCount;
            bondCount = other.bondCount;
            textCount = other.textCount;
            step = other.step;
        }

        boolean hasPart(int part) {
            return part >= 0 && part < partCount;
        }

        boolean hasBond(int bond) {
            return bond >= 0 && bond < bondCount;
        }

        void dropBond(int bond) {
            for (int i = bond; i < bondCount - 1; i++) {
                from[i] = from[i + 1];
                to[i] = to[i + 1];
            }
            bondCount--;
        }

        int endsOf(int part) {
            int ends = 0;
            for (int i = 0; i < bondCount; i++) {
                if (from[i] == part || to[i] == part) {
                    ends++;
                }
            }
            return ends;
        }

        /** The least bond above one that has the part at an end. */
        int nextBondOf(int part, int above) {
            for (int i = above + 1; i < bondCount; i++) {
                if (from[i] == part || to[i] == part) {
                    return i;
                }
            }
            return ABSENT;
        }

        boolean isWhole() {
            for (int i = 0; i < partCount; i++) {
                if (!parts[i].wants(endsOf(i))) {
                    return false;
                }
            }
            return bondCount > 0;
        }

        int stores() {
            int stores = 0;
            for (int i = 0; i < partCount; i++) {
                if (parts[i].kind == STORE) {
                    stores++;
                }
            }
            return stores;
        }

        int storesTogether() {
            int sum = 0;
            for (int i = 0; i < partCount; i++) {
                if (parts[i].kind == STORE) {
                    sum = worthOf(sum + parts[i].hold);
                }
            }
            return sum;
        }

        int textFor(int key, int target) {
            for (int i = textCount - 1; i >= 0; i--) {
                if (texts[i] != null && texts[i].key == key && texts[i].target == target) {
                    return i;
                }
            }
            return ABSENT;
        }

        int textGives(int number, int[] desk, int first, int second) {
            Text text = texts[number];
            return text == null ? 0 : text.workOut(desk, step, first, second);
        }

        /** Without such a give, or a text for it, nothing is done. */
        void followText(int part, int[] desk) {
            int counting = textFor(KEY_GIVE, part);
            if (counting != ABSENT && hasPart(part) && parts[part].kind == GIVE) {
                parts[part].hold = worthOf(textGives(counting, desk, parts[part].hold, 0));
            }
        }

        void doStep(Answer answer, int[] desk) {
            for (int i = 0; i < partCount; i++) {
                int bond = nextBondOf(i, ABSENT);
                if (parts[i].kind == STORE && bond != ABSENT) {
                    int more = parts[i].sort == 0 ? answer.pace[bond] : answer.push[bond];
                    parts[i].hold = worthOf(parts[i].hold + more);
                }
            }
            step++;
            for (int i = 0; i < partCount; i++) {
                followText(i, desk);
            }
        }

        /** Bits of parts: those given and all that one bond joins to them. */
        int withNeighbours(int reached) {
            int more = reached;
            for (int i = 0; i < bondCount; i++) {
                if ((reached >> from[i] & 1) == 1 || (reached >> to[i] & 1) == 1) {
                    more |= 1 << from[i] | 1 << to[i];
                }
            }
            return more;
        }

        int pieces() {
            int pieces = 0;
            int seen = 0;
            for (int i = 0; i < partCount; i++) {
                if ((seen >> i & 1) == 0) {
                    pieces++;
                    seen |= 1 << i;
                    for (int turn = 0; turn < partCount; turn++) {
                        seen = withNeighbours(seen);
                    }
                }
            }
            return pieces;
        }
    }

    /** The laws of a machine as rows, one column for each push and pace, solved at once. */
    private static final class Answer {
        private static final int PUSH = 0, PACE = 1;

        final int[] push = new int[MAX_BONDS];
        final int[] pace = new int[MAX_BONDS];
        private final long[][] rows = new long[2 * MAX_BONDS][2 * MAX_BONDS + 1];
        private int rowCount;
        /** How many unknowns there are; the column behind them is what a law's sum must be. */
        private int width;

        /** ONE_ANSWER, and push and pace tell it; else NO or MANY. */
        int solve(Machine machine) {
            if (!machine.isWhole()) {
                return NO;
            }
            writeLaws(machine);
            int rank = reduce();
            for (int i = rank; i < rowCount; i++) {
                if (rows[i][width] != 0) {
                    return NO;
                }
            }
            if (rank < width) {
                return MANY;
            }
            for (int i = 0; i < machine.bondCount; i++) {
                push[i] = (int) rows[column(i, PUSH)][width];
                pace[i] = (int) rows[column(i, PACE)][width];
            }
            return ONE_ANSWER;
        }

        private static int column(int bond, int quality) {
            return 2 * bond + quality;
        }

        private void writeLaws(Machine machine) {
            width = 2 * machine.bondCount;
            rowCount = 0;
            for (int i = 0; i < machine.partCount; i++) {
                Part part = machine.parts[i];
                int bond = machine.nextBondOf(i, ABSENT);
                if (part.kind == TURN) {
                    writeTurn(part, bond, machine.nextBondOf(i, bond));
                } else if (part.kind == JOIN) {
                    writeJoin(machine, i, bond);
                } else {
                    writeEnd(part, bond);
                }
            }
        }

        /** There is always room: a whole machine has as many laws as unknowns. */
        private long[] newRow() {
            long[] row = rows[rowCount];
            Arrays.fill(row, 0L);
            rowCount++;
            return row;
        }

        /** One column is so many times another one; times is 1 and more. */
        private void writeTimes(int one, int other, int times) {
            long[] row = newRow();
            row[one] = 1;
            row[other] = PRIME - times;
        }

        private void writeEnd(Part part, int bond) {
            int near = column(bond, part.sort);
            if (part.kind == LOSS) {
                writeTimes(near, column(bond, 1 - part.sort), part.shareWorth());
                return;
            }
            long[] row = newRow();
            row[near] = 1;
            if (part.kind == STORE) {
                row[width] = product(part.shareWorth(), part.hold);
            } else if (part.kind == GIVE) {
                row[width] = part.hold;
            }
        }

        private void writeTurn(Part part, int lesser, int greater) {
            int share = part.shareWorth();
            if (part.sort == 0) {
                writeTimes(column(lesser, PUSH), column(greater, PUSH), share);
                writeTimes(column(greater, PACE), column(lesser, PACE), share);
            } else {
                writeTimes(column(lesser, PUSH), column(greater, PACE), share);
                writeTimes(column(greater, PUSH), column(lesser, PACE), share);
            }
        }

        private void writeJoin(Machine machine, int part, int first) {
            int alike = machine.parts[part].sort;
            long[] sum = newRow();
            for (int i = first; i < machine.bondCount; i++) {
                boolean comes = machine.to[i] == part;
                if (comes || machine.from[i] == part) {
                    sum[column(i, 1 - alike)] = comes ? 1 : PRIME - 1;
                    if (i != first) {
                        writeTimes(column(first, alike), column(i, alike), 1);
                    }
                }
            }
        }

        /** How many rows have a column of their own then. */
        private int reduce() {
            int rank = 0;
            for (int i = 0; i < width && rank < rowCount; i++) {
                int found = rowWith(i, rank);
                if (found != ABSENT) {
                    long[] own = rows[found];
                    rows[found] = rows[rank];
                    rows[rank] = own;
                    scale(own, i);
                    clearOthers(rank, i);
                    rank++;
                }
            }
            return rank;
        }

        private int rowWith(int column, int least) {
            for (int i = least; i < rowCount; i++) {
                if (rows[i][column] != 0) {
                    return i;
                }
            }
            return ABSENT;
        }

        private void scale(long[] row, int column) {
            if (row[column] == 1) {
                return;
            }
            long times = inverse(row[column]);
            for (int i = column; i <= width; i++) {
                row[i] = row[i] * times % PRIME;
            }
        }

        private void clearOthers(int own, int column) {
            for (int i = 0; i < rowCount; i++) {
                long times = PRIME - rows[i][column];
                if (i != own && times != PRIME) {
                    for (int j = column; j <= width; j++) {
                        rows[i][j] = (rows[i][j] + times * rows[own][j]) % PRIME;
                    }
                }
            }
        }
    }

    /** Who settles which push, over all line-ups of a whole machine. */
    private static final class LineUps {
        private final int[] coming = new int[MAX_PARTS];
        private final int[] going = new int[MAX_PARTS];
        int possible;
        int best;
        int bestSumming;

        void lookAt(Machine machine) {
            for (int i = 0; i < machine.partCount; i++) {
                coming[i] = 0;
                going[i] = 0;
            }
            for (int i = 0; i < machine.bondCount; i++) {
                coming[machine.to[i]] |= 1 << i;
                going[machine.from[i]] |= 1 << i;
            }
        }

        void survey(Machine machine) {
            lookAt(machine);
            possible = 0;
            best = 0;
            bestSumming = ABSENT;
            int end = 1 << machine.bondCount;
            int bits = 0;
            for (int turn = 0; turn < end && bits < end; turn++) {
                int against = firstAgainst(machine, bits);
                if (against == ABSENT) {
                    weigh(machine, bits);
                    bits++;
                } else {
                    bits = nextWithout(against, bits);
                }
            }
        }

        private void weigh(Machine machine, int bits) {
            possible++;
            int summing = 0;
            for (int i = 0; i < machine.partCount; i++) {
                if (machine.parts[i].kind == STORE && sums(machine, i, bits)) {
                    summing++;
                }
            }
            if (summing > bestSumming) {
                best = bits;
                bestSumming = summing;
            }
        }

        /** A part is against all line-ups that differ below its least bond alone, so these are passed over. */
        private int nextWithout(int part, int bits) {
            int own = coming[part] | going[part];
            int least = own & -own;
            return least == 0 ? bits + 1 : (bits | least - 1) + 1;
        }

        int firstAgainst(Machine machine, int bits) {
            for (int i = 0; i < machine.partCount; i++) {
                if (!allows(machine.parts[i], i, bits)) {
                    return i;
                }
            }
            return ABSENT;
        }

        private boolean allows(Part part, int number, int bits) {
            int settled = settledBy(number, bits);
            switch (part.kind) {
                case GIVE:
                    return settled == 1 - part.sort;
                case TURN:
                    return part.sort == 0 ? settled == 1 : settled != 1;
                case JOIN:
                    int all = Integer.bitCount(coming[number] | going[number]);
                    return settled == (part.sort == 0 ? all - 1 : 1);
                default:
                    return true;
            }
        }

        private int settledBy(int part, int bits) {
            return Integer.bitCount(bits & coming[part] | ~bits & going[part]);
        }

        private boolean sums(Machine machine, int store, int bits) {
            return settledBy(store, bits) == 1 - machine.parts[store].sort;
        }

        int tiedStores(Machine machine) {
            int tied = 0;
            for (int i = 0; i < machine.partCount; i++) {
                if (machine.parts[i].kind == STORE && !sums(machine, i, best)) {
                    tied |= 1 << i;
                }
            }
            return tied;
        }
    }

    /** A text that was told: its expression is a row of numbers, and of names and signs as their bytes below 0, each sign behind what it works on. */
    private static final class Text {
        final int key;
        final int target;
        final int operands;
        private final int[] code;

        Text(int key, int target, int operands, int[] code) {
            this.key = key;
            this.target = target;
            this.operands = operands;
            this.code = code;
        }

        /** First is what h or p stands for, second what f does. */
        int workOut(int[] desk, int step, int first, int second) {
            int top = -1;
            for (int i = 0; i < code.length; i++) {
                int sign = -code[i];
                if (sign == '!' && top >= 0) {
                    desk[top] = truth(desk[top] == 0);
                } else if (isOperand(sign) && top + 1 < desk.length) {
                    top++;
                    desk[top] = valueOf(sign, step, first, second);
                } else if (top >= 1) {
                    top--;
                    desk[top] = join(sign, desk[top], desk[top + 1]);
                }
            }
            return top >= 0 ? desk[0] : 0;
        }

        private static boolean isOperand(int sign) {
            return sign <= 0 || sign >= 'a' && sign <= 'z';
        }

        private static int valueOf(int sign, int step, int first, int second) {
            if (sign <= 0) {
                return -sign;
            }
            if (sign == 't') {
                return step;
            }
            return sign == 'f' ? second : first;
        }

        private static int join(int sign, int left, int right) {
            switch (sign) {
                case '+': return left + right;
                case '-': return left - right;
                case '*': return left * right;
                case '/': return right == 0 ? 0 : left / right;
                case '<': return truth(left < right);
                case '=': return truth(left == right);
                case '>': return truth(left > right);
                case '&': return truth(left != 0 && right != 0);
                default: return truth(left != 0 || right != 0);
            }
        }

        private static int truth(boolean holds) {
            return holds ? 1 : 0;
        }
    }

    /** The tape, and how it is read as a text, word by word: the word at which that stops is the fault. */
    private static final class Tape {
        private static final int END = 0, LETTERS = 1, DIGITS = 2, SIGN = 3, STUCK = 4;
        private static final int TEST_LEVEL = 2, PIECE_LEVEL = 5;

        int size;
        /** Where the word that is looked at begins. */
        int place;
        private final byte[] bytes = new byte[MAX_TAPE];
        private int behind;
        private int sort;
        private int key;
        private final int[] code = new int[MAX_TAPE];
        private int codeSize;
        private int operands;

        /** The highest byte first. */
        void putBytes(int four) {
            for (int shift = 24; shift >= 0 && size < MAX_TAPE; shift -= 8) {
                bytes[size] = (byte) (four >> shift);
                size++;
            }
        }

        /** Null if there is a fault, then at place. */
        Text parse() {
            behind = 0;
            sort = END;
            codeSize = 0;
            operands = 0;
            goOn();
            key = keyHere();
            if (key == ABSENT) {
                return null;
            }
            goOn();
            int target = numberHere();
            if (target == ABSENT || target >= (key == KEY_GIVE ? MAX_PARTS : MAX_BONDS)) {
                return null;
            }
            goOn();
            if (!readLevel(0, 0, 0) || sort != END) {
                return null;
            }
            return new Text(key, target, operands, Arrays.copyOf(code, codeSize));
        }

        /** To the next word; one that sticks to the word ahead of it is STUCK, which nothing takes. */
        private void goOn() {
            boolean wasWord = sort == LETTERS || sort == DIGITS;
            int ended = behind;
            place = ended;
            while (place < size && bytes[place] == ' ') {
                place++;
            }
            behind = place;
            sort = sortAt(place);
            if (sort == END) {
                return;
            }
            behind++;
            if (sort == SIGN) {
                return;
            }
            while (behind < size && sortAt(behind) == sort) {
                behind++;
            }
            if (wasWord && place == ended) {
                sort = STUCK;
            }
        }

        private int sortAt(int at) {
            if (at >= size) {
                return END;
            }
            if (bytes[at] >= 'a' && bytes[at] <= 'z') {
                return LETTERS;
            }
            return bytes[at] >= '0' && bytes[at] <= '9' ? DIGITS : SIGN;
        }

        private int keyHere() {
            if (isWord("give")) {
                return KEY_GIVE;
            }
            return isWord("read") ? KEY_READ : ABSENT;
        }

        private boolean isWord(String word) {
            if (sort != LETTERS || behind - place != word.length()) {
                return false;
            }
            for (int i = 0; i < word.length(); i++) {
                if (bytes[place + i] != word.charAt(i)) {
                    return false;
                }
            }
            return true;
        }

        private int numberHere() {
            if (sort != DIGITS || behind - place > MAX_DIGITS) {
                return ABSENT;
            }
            int number = 0;
            for (int i = place; i < behind; i++) {
                number = 10 * number + bytes[i] - '0';
            }
            return number;
        }

        private boolean isName() {
            if (sort != LETTERS || behind - place != 1) {
                return false;
            }
            int letter = bytes[place];
            return letter == 't' || (key == KEY_GIVE ? letter == 'h' : letter == 'p' || letter == 'f');
        }

        private boolean isSign(int sign) {
            return sort == SIGN && bytes[place] == sign;
        }

        private boolean joinsAt(int level) {
            switch (level) {
                case 0: return isSign('|');
                case 1: return isSign('&');
                case TEST_LEVEL: return isSign('<') || isSign('=') || isSign('>');
                case 3: return isSign('+') || isSign('-');
                default: return isSign('*') || isSign('/');
            }
        }

        private void put(int word) {
            if (codeSize < code.length) {
                code[codeSize] = word;
                codeSize++;
            }
        }

        /** The loosest level is 0; open tells how many ( are, inside how many ! are around. */
        private boolean readLevel(int level, int open, int inside) {
            if (level >= PIECE_LEVEL) {
                return readPiece(open, inside);
            }
            boolean good = readLevel(level + 1, open, inside);
            int most = level == TEST_LEVEL ? 1 : MAX_TAPE;
            for (int i = 0; i < most && good && joinsAt(level); i++) {
                int sign = bytes[place];
                goOn();
                good = readLevel(level + 1, open, inside);
                put(-sign);
            }
            return good;
        }

        private boolean readPiece(int open, int inside) {
            if (isSign('!') && inside < MAX_NESTED) {
                goOn();
                boolean good = readPiece(open, inside + 1);
                put(-'!');
                return good;
            }
            if (isSign('(') && open < MAX_NESTED) {
                goOn();
                if (!readLevel(0, open + 1, inside) || !isSign(')')) {
                    return false;
                }
                goOn();
                return true;
            }
            return readOperand();
        }

        private boolean readOperand() {
            int number = numberHere();
            if (number == ABSENT && !isName()) {
                return false;
            }
            put(number == ABSENT ? -bytes[place] : number);
            operands++;
            goOn();
            return true;
        }
    }

    private static final class Sheet {
        int sort = MISSING;
        int size;
        /** Of longs too: no call brings one that is no int. */
        final int[] places = new int[MAX_PLACES];

        void become(int newSort, int newSize) {
            sort = newSort;
            size = newSize;
            Arrays.fill(places, 0);
        }

        void takeFrom(Sheet other) {
            sort = other.sort;
            size = other.size;
            System.arraycopy(other.places, 0, places, 0, MAX_PLACES);
        }

        boolean hasPlace(int place) {
            return place >= 0 && place < size;
        }

        /** A row of none may begin right behind the last place. */
        boolean hasRow(int place, int many) {
            return place >= 0 && many >= 0 && many <= size && place <= size - many;
        }
    }

    private static final class Slot {
        int thing = HOLDS_NOTHING;
        int number;
        final Part heldPart = new Part();
        final Sheet heldSheet = new Sheet();

        /** What a call answers that wants another thing than the slot holds; 0 if it holds that. */
        int refusalFor(int wanted) {
            if (thing == HOLDS_NOTHING) {
                return NOTHING;
            }
            return thing == wanted ? 0 : KIND;
        }
    }
}
