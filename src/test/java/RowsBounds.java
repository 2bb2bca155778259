/** Boundary cases of promises 35 to 39. */
final class RowsBounds {
    private static final int MIN = Bounds.MIN, MAX = Bounds.MAX, BAD = Bounds.BAD, NO = Bounds.NO, FULL = Bounds.FULL, PRIME = Bounds.PRIME;
    private static final int STORE = Bounds.STORE, LOSS = Bounds.LOSS, GIVE = Bounds.GIVE, TURN = Bounds.TURN, JOIN = Bounds.JOIN;

    private RowsBounds() {
    }

    static void ask(Bounds b) {
        tell(b);
        checkValues(b);
        checkLengths(b);
        checkWrong(b);
        checkLongest(b);
        checkNumbers(b);
        checkRefused(b);
        checkAbove(b);
        checkChangesNothing(b);
        keep(b);
        back(b);
        backKeepsAll(b);
        backLeaves(b);
        backOfFull(b);
        count(b);
        countTogether(b);
    }

    /** STORE 0 2 by 1 and a GIVE of PACE 1: behind STEP i it holds i, PUSH is 2 i. */
    private static PowerBonds machine() {
        PowerBonds x = Bounds.pair(STORE, 0, GIVE, 1);
        x.set(0, 2, 21);
        x.set(1, 3, 1);
        return x;
    }

    private static int tellAndCheck(PowerBonds x, int n, int... told) {
        for (int v : told) {
            x.tell(v);
        }
        return x.check(n);
    }

    private static int[] due(int steps) {
        int[] told = new int[2 * steps];
        for (int i = 1; i <= steps; i++) {
            told[2 * i - 2] = i;
            told[2 * i - 1] = 2 * i;
        }
        return told;
    }

    private static void tell(Bounds b) {
        b.promise(35, "how many; FULL: 60 wait");
        PowerBonds x = new PowerBonds();
        for (int i = 1; i <= 60; i++) {
            b.due("number " + i, x.tell(i % 2 == 0 ? MIN : MAX), i);
        }
        b.due("one more", x.tell(0), FULL);
        b.due("one more again", x.tell(MIN), FULL);
        b.due("how many wait", x.count(5), 60);
        b.due("check(0)", x.check(0), BAD);
        b.due("none wait, so one can", x.tell(7), 1);
        b.promise(35, "FULL changes nothing");
        PowerBonds y = machine();
        y.keep();
        for (int v : due(30)) {
            y.tell(v);
        }
        b.due("one more", y.tell(99), FULL);
        b.due("the sixty are as they were", y.check(30), 0);
    }

    private static void checkValues(Bounds b) {
        b.promise(36, "n (1 .. 30)");
        PowerBonds x = machine();
        x.keep();
        b.within("check(n)", x::check, 1, 30, BAD);
        b.due("check(1)", tellAndCheck(x, 1, 1, 2), 0);
        b.promise(36, "BAD stands ahead of NO");
        PowerBonds none = new PowerBonds();
        b.each("check(n) without an IMAGE", none::check, BAD, 0, 31, -1, MIN, MAX);
        b.each("check(n) without an IMAGE", none::check, NO, 1, 30);
        b.promise(36, "none do then, whatever is answered");
        b.due("0", tellAndCheck(x, 1, 1, 2), 0);
        b.due("numbers that wait", x.count(5), 0);
        b.due("else", tellAndCheck(x, 1, 5), 1);
        b.due("numbers that wait", x.count(5), 0);
        b.due("BAD", tellAndCheck(x, 0, 1, 2), BAD);
        b.due("numbers that wait", x.count(5), 0);
        b.due("BAD", tellAndCheck(x, 31, 1, 2), BAD);
        b.due("numbers that wait", x.count(5), 0);
        b.due("NO", tellAndCheck(none, 1, 1, 2), NO);
        b.due("numbers that wait", none.count(5), 0);
    }

    private static void checkLengths(Bounds b) {
        b.promise(36, "else 1 and how many stand right ahead of the first that is missing, or one too many");
        PowerBonds x = machine();
        x.keep();
        for (int n = 1; n <= 3; n++) {
            for (int many = 0; many <= 8; many++) {
                int[] told = java.util.Arrays.copyOf(due(4), many);
                int want = many == 2 * n ? 0 : 1 + Math.min(many, 2 * n);
                b.due(many + " right ones for " + n + " STEPS", tellAndCheck(x, n, told), want);
            }
        }
    }

    private static void checkWrong(Bounds b) {
        b.promise(36, "else 1 and how many stand right ahead of the first that is not");
        PowerBonds x = machine();
        x.keep();
        for (int wrong = 0; wrong < 6; wrong++) {
            int[] told = due(3);
            told[wrong]++;
            b.due("of six number " + wrong, tellAndCheck(x, 3, told), 1 + wrong);
            b.due("of six for two STEPS number " + wrong, tellAndCheck(x, 2, told), 1 + Math.min(wrong, 4));
            told[5] = 99;
            b.due("of two the first, number " + wrong, tellAndCheck(x, 3, told), 1 + wrong);
        }
    }

    private static void checkLongest(Bounds b) {
        b.promise(36, "two by two, of n 30: sixty numbers");
        PowerBonds x = machine();
        x.keep();
        b.due("all of them", tellAndCheck(x, 30, due(30)), 0);
        int[] told = due(30);
        told[59] = 0;
        b.due("the last is not", tellAndCheck(x, 30, told), 60);
        b.due("the last is missing", tellAndCheck(x, 30, java.util.Arrays.copyOf(due(30), 59)), 60);
        b.due("two too many for 29", tellAndCheck(x, 29, due(30)), 59);
        b.due("none at all", x.check(30), 1);
    }

    private static void checkNumbers(Bounds b) {
        b.promise(36, "HOLDS of all STORES together (a WORTH), and PUSH of BOND 0");
        PowerBonds x = machine();
        x.part(STORE, 1, 11);
        x.part(GIVE, 0, 11);
        x.bond(3, 2);
        x.set(0, 3, PRIME - 2);
        x.set(2, 3, PRIME - 1);
        x.set(3, 3, PRIME - 1);
        x.keep();
        b.due("1000002 and 1000001, then 0 and 1000000: wrapped around", tellAndCheck(x, 2, PRIME - 3, PRIME - 2, PRIME - 3, 0), 0);
        b.due("WORTHS, not -3", tellAndCheck(x, 1, -3, PRIME - 2), 1);
        b.due("WORTHS, not 1000003 more", tellAndCheck(x, 1, PRIME - 3, 2 * PRIME - 2), 2);
        b.promise(36, "of no STORES: 0");
        PowerBonds y = Bounds.pair(GIVE, 0, LOSS, 0);
        y.set(0, 3, 5);
        y.keep();
        b.due("check(1)", tellAndCheck(y, 1, 0, 5), 0);
    }

    private static void checkRefused(Bounds b) {
        b.promise(36, "NO: there is no IMAGE");
        b.due("check(1)", machine().check(1), NO);
        b.promise(36, "NO: one of these STEPS can't be done");
        PowerBonds x = new PowerBonds();
        x.keep();
        b.due("of no PARTS", x.check(1), NO);
        PowerBonds y = machine();
        y.part(LOSS, 0, 11);
        y.keep();
        b.due("not WHOLE", tellAndCheck(y, 1, 1, 2), NO);
        PowerBonds many = machine();
        Bounds.tieGives(many, 0);
        many.keep();
        b.due("MANY", tellAndCheck(many, 1, 1, 2), NO);
        PowerBonds none = machine();
        Bounds.tieGives(none, 1);
        none.keep();
        b.due("none", tellAndCheck(none, 30, 1, 2), NO);
        b.promise(36, "from THE IMAGE on, whatever is now");
        PowerBonds z = machine();
        z.keep();
        z.part(LOSS, 0, 11);
        b.due("not WHOLE now", tellAndCheck(z, 1, 1, 2), 0);
        z.breaks(0);
        b.due("no BOND now", tellAndCheck(z, 1, 1, 2), 0);
    }

    private static void checkAbove(Bounds b) {
        b.promise(36, "here STEPS go on above 9999, too");
        PowerBonds x = machine();
        for (int i = 0; i < 166; i++) {
            x.run(60);
        }
        b.due("run(39)", x.run(39), 9999);
        b.due("run(1)", x.run(1), FULL);
        Tape.text(x, "give 1 t");
        x.set(0, 3, 0);
        x.keep();
        b.due("t goes on above", tellAndCheck(x, 3, 9999, 19998, 19999, 39998, 30000, 60000), 0);
        for (int i = 1; i <= 30; i++) {
            int held = 9999 * i + (i - 1) * i / 2;
            x.tell(held % PRIME);
            x.tell(2 * held % PRIME);
        }
        b.due("thirty of them", x.check(30), 0);
        b.due("the STEP stays", x.count(7), 9999);
    }

    private static void checkChangesNothing(Bounds b) {
        b.promise(36, "what is now stays, and so does THE IMAGE");
        PowerBonds x = machine();
        x.run(5);
        x.keep();
        x.run(2);
        b.due("check(2)", tellAndCheck(x, 2, 6, 12, 7, 14), 0);
        b.due("the STEP", x.count(7), 7);
        b.due("HOLD", x.told(0, 3), 7);
        b.due("check(2) again", tellAndCheck(x, 2, 6, 12, 7, 14), 0);
        b.due("back()", x.back(), 5);
        b.due("HOLD", x.told(0, 3), 5);
    }

    private static void keep(Bounds b) {
        b.promise(37, "the STEP");
        PowerBonds x = new PowerBonds();
        b.due("of nothing", x.keep(), 0);
        b.due("back() to nothing", x.back(), 0);
        PowerBonds y = machine();
        y.run(1);
        b.due("at STEP 1", y.keep(), 1);
        b.due("again", y.keep(), 1);
        for (int i = 0; i < 166; i++) {
            y.run(60);
        }
        y.run(38);
        b.due("at the last STEP", y.keep(), 9999);
        b.promise(37, "AN IMAGE takes the place of the one ahead");
        b.due("back()", y.back(), 9999);
        b.promise(37, "what comes behind it is none of it");
        PowerBonds z = machine();
        z.keep();
        z.set(0, 3, 9);
        z.part(LOSS, 0, 11);
        z.breaks(0);
        Tape.text(z, "give 1 9");
        z.back();
        b.due("HOLD", z.told(0, 3), 0);
        b.due("PARTS", z.count(0), 2);
        b.due("BONDS", z.count(1), 1);
        b.due("TEXTS", z.count(4), 0);
        b.due("HOLD of the GIVE", z.told(1, 3), 1);
    }

    private static void back(Bounds b) {
        b.promise(38, "NO: there is none");
        PowerBonds x = machine();
        x.run(2);
        b.due("back()", x.back(), NO);
        b.due("the STEP stays", x.count(7), 2);
        b.due("PARTS stay", x.count(0), 2);
        b.promise(38, "the STEP, again and again");
        x.keep();
        for (int i = 0; i < 3; i++) {
            b.due("run(60)", x.run(60), 62);
            b.due("back()", x.back(), 2);
            b.due("HOLD", x.told(0, 3), 2);
        }
        b.due("back() at once", x.back(), 2);
        b.promise(38, "what comes behind it is none of THE IMAGE");
        x.set(0, 3, 50);
        b.due("back()", x.back(), 2);
        b.due("HOLD", x.told(0, 3), 2);
    }

    private static void backKeepsAll(Bounds b) {
        b.promise(38, "all is as THE IMAGE: KINDS, SORTS, SHARES, HOLDS, BONDS, TEXTS");
        PowerBonds x = new PowerBonds();
        x.part(TURN, 1, 29);
        x.part(JOIN, 0, 34);
        x.bond(1, 0);
        Tape.text(x, "read 0 p");
        x.set(0, 3, 12);
        x.keep();
        x.dual();
        x.set(0, 3, 0);
        x.set(1, 2, 99);
        x.breaks(0);
        x.bond(0, 1);
        x.bond(0, 1);
        Tape.text(x, "read 0 f");
        b.due("back()", x.back(), 0);
        int[][] want = {{TURN, 1, 29, 12}, {JOIN, 0, 34, 0}};
        for (int part = 0; part < 2; part++) {
            for (int what = 0; what < 4; what++) {
                b.due("told(" + part + ", " + what + ")", x.told(part, what), want[part][what]);
            }
        }
        b.due("BONDS", x.count(1), 1);
        b.due("from", x.of(0, 0), 1);
        b.due("to", x.of(0, 1), 0);
        b.due("the TEXT that counts", x.why(1, 0), 0);
        b.due("TEXTS", x.count(4), 1);
    }

    private static void backLeaves(Bounds b) {
        b.promise(38, "AN IMAGE keeps all but SHEETS, SLOTS, numbers that wait, THE TAPE");
        PowerBonds x = machine();
        x.sheet(0, 1, 1);
        x.lay(0, 3, 5);
        x.tell(1);
        x.feed(1, 2, 3);
        x.keep();
        x.mark(0, 0, 8);
        x.sheet(3, 0, 2);
        x.lay(0, 3, 6);
        x.lay(4, 1, 0);
        x.tell(2);
        x.trim(7);
        x.back();
        b.due("a place of a SHEET", x.mark(0, 0, 0), 8);
        b.due("a SHEET", x.mark(3, 1, 0), 0);
        b.due("a number in a SLOT", x.rest(0, 100), 6);
        b.due("a PART in a SLOT", x.ask(4, STORE), 2);
        b.due("numbers that wait", x.count(5), 2);
        b.due("THE TAPE", x.count(6), 7);
        b.due("the numbers are as they came", x.check(1), 0);
    }

    /** Twelve parts and bonds and fourteen texts, back to none and to all. */
    private static void backOfFull(Bounds b) {
        b.promise(38, "from all to nothing and from nothing to all");
        PowerBonds x = new PowerBonds();
        x.keep();
        fill(x);
        b.due("back() to nothing", x.back(), 0);
        int[] none = {0, 1, 2, 3, 4, 7};
        b.each("count", x::count, 0, none);
        fill(x);
        x.keep();
        for (int i = 0; i < 12; i++) {
            x.breaks(0);
            x.set(i, 2, 11);
        }
        x.back();
        b.due("PARTS", x.count(0), 12);
        b.due("BONDS", x.count(1), 12);
        b.due("TEXTS", x.count(4), 14);
        b.due("SHARE of the last", x.told(11, 2), 98);
        b.due("to of the last", x.of(11, 1), 0);
        b.due("the last TEXT", x.textTold(13, 2), 3);
        b.due("one PART more", x.part(JOIN, 0, 11), FULL);
        b.due("one BOND more", x.bond(0, 1), FULL);
        b.due("one TEXT more", Tape.text(x, "give 0 1"), FULL);
    }

    private static void fill(PowerBonds x) {
        for (int i = 0; i < 12; i++) {
            x.part(JOIN, 1, 98);
        }
        for (int i = 0; i < 12; i++) {
            x.bond(i, (i + 1) % 12);
        }
        for (int i = 0; i < 14; i++) {
            Tape.text(x, i == 13 ? "give 1 t+t+t" : "give 1 t");
        }
    }

    private static void count(Bounds b) {
        b.promise(39, "what 0 to 7");
        PowerBonds x = machine();
        b.within("count(what)", x::count, 0, 7, BAD);
        b.promise(39, "how many, from none to as many as there can be");
        PowerBonds full = new PowerBonds();
        for (int what = 0; what <= 7; what++) {
            b.due("count(" + what + ") of nothing", full.count(what), 0);
        }
        for (int i = 0; i < 12; i++) {
            full.part(STORE, i % 2, 11);
            full.set(i, 3, 1);
            full.bond(0, i);
            full.bond(i, 0);
        }
        for (int i = 0; i < 14; i++) {
            Tape.text(full, "read 0 1");
        }
        for (int i = 0; i < 60; i++) {
            full.tell(i);
        }
        for (int i = 0; i < 8; i++) {
            full.feed(0, 0, 0);
        }
        int[] want = {12, 12, 12, 12, 14, 60, 96, 0};
        for (int what = 0; what <= 7; what++) {
            b.due("count(" + what + ") of all", full.count(what), want[what]);
        }
        x.run(60);
        b.due("the STEP", x.count(7), 60);
    }

    private static void countTogether(Bounds b) {
        b.promise(39, "STORES alone (all HOLDS together of these: 3), a WORTH");
        PowerBonds x = new PowerBonds();
        for (int kind = 0; kind < 6; kind++) {
            x.part(kind, 0, 11);
            x.set(kind, 3, 100);
        }
        b.due("STORES", x.count(2), 1);
        b.due("together", x.count(3), 100);
        PowerBonds y = Bounds.parts(STORE, 12);
        y.set(0, 3, PRIME - 1);
        b.due("one of 1000002", y.count(3), PRIME - 1);
        y.set(11, 3, 1);
        b.due("and 1: wrapped around", y.count(3), 0);
        for (int i = 0; i < 12; i++) {
            y.set(i, 3, -1);
        }
        b.due("twelve of 1000002", y.count(3), PRIME - 12);
    }
}
