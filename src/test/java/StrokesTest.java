/** Promises 8 (what 5), 11 and 12: who settles which push. */
public final class StrokesTest {
    private static final int PART = 0, STORE = 1, LOSS = 2, GIVE = 3, TURN = 4, JOIN = 5;
    private static final Due DUE = new Due();

    public static void main(String[] args) {
        pairs();
        inner();
        stores();
        widest();
        changes();
        refusals();
        DUE.end();
    }

    private static PowerBonds pair(int kind, int sort, int otherKind, int otherSort) {
        PowerBonds x = new PowerBonds();
        x.part(kind, sort, 11);
        x.part(otherKind, otherSort, 11);
        x.bond(0, 1);
        return x;
    }

    /** bits, summing, tied, how many; of no use but the last if none can be. */
    private static void tells(String told, PowerBonds x, int... want) {
        for (int i = 0; i < 4; i++) {
            int due = want[3] == 0 && i < 3 ? PowerBonds.CLASH : want[i];
            DUE.due(told + ": strokes(" + i + ")", x.strokes(i), due);
        }
        for (int i = 0; i < x.count(1); i++) {
            int due = want[3] == 0 ? PowerBonds.CLASH : x.of(i, want[0] >> i & 1);
            DUE.due(told + ": of(" + i + ", 5)", x.of(i, 5), due);
        }
    }

    private static void pairs() {
        tells("nothing is asked", pair(PART, 0, LOSS, 1), 0, 0, 0, 2);
        tells("GIVE 0 settles", pair(GIVE, 0, LOSS, 0), 0, 0, 0, 1);
        tells("GIVE 0 settles, to it", pair(LOSS, 0, GIVE, 0), 1, 0, 0, 1);
        tells("GIVE 1 does not", pair(GIVE, 1, LOSS, 0), 1, 0, 0, 1);
        tells("GIVE 1 does not, to it", pair(LOSS, 0, GIVE, 1), 0, 0, 0, 1);
        tells("GIVES of both sorts", pair(GIVE, 1, GIVE, 0), 1, 0, 0, 1);
        tells("two GIVES 0", pair(GIVE, 0, GIVE, 0), 0, 0, 0, 0);
        tells("two GIVES 1", pair(GIVE, 1, GIVE, 1), 0, 0, 0, 0);
        tells("two STORES 0", pair(STORE, 0, STORE, 0), 0, 1, 2, 2);
        tells("two STORES 1", pair(STORE, 1, STORE, 1), 0, 1, 1, 2);
        tells("STORES 0 and 1", pair(STORE, 0, STORE, 1), 0, 2, 0, 2);
        tells("STORES 1 and 0", pair(STORE, 1, STORE, 0), 1, 2, 0, 2);
        tells("STORE 0 and GIVE 0", pair(STORE, 0, GIVE, 0), 1, 0, 1, 1);
        tells("STORE 0 and GIVE 1", pair(STORE, 0, GIVE, 1), 0, 1, 0, 1);
    }

    /** An inner part 0 with losses: bond i from it to part i + 1, so that bit i tells that the loss settles. */
    private static PowerBonds star(int kind, int sort, int ends) {
        PowerBonds x = new PowerBonds();
        x.part(kind, sort, 11);
        for (int i = 1; i <= ends; i++) {
            x.part(LOSS, 0, 11);
            x.bond(0, i);
        }
        return x;
    }

    private static void inner() {
        for (int ends = 2; ends <= 5; ends++) {
            for (int bits = 0; bits < 1 << ends; bits++) {
                int settles = ends - Integer.bitCount(bits);
                String told = " of " + ends + " can(" + bits + ")";
                DUE.due("JOIN 0" + told, star(JOIN, 0, ends).can(bits), settles == ends - 1 ? 1 : 0);
                DUE.due("JOIN 1" + told, star(JOIN, 1, ends).can(bits), settles == 1 ? 1 : 0);
                if (ends == 2) {
                    DUE.due("TURN 0" + told, star(TURN, 0, 2).can(bits), settles == 1 ? 1 : 0);
                    DUE.due("TURN 1" + told, star(TURN, 1, 2).can(bits), settles != 1 ? 1 : 0);
                }
            }
        }
        tells("JOIN 0 of four", star(JOIN, 0, 4), 1, 0, 0, 4);
        tells("JOIN 1 of four", star(JOIN, 1, 4), 7, 0, 0, 4);
        tells("TURN 0", star(TURN, 0, 2), 1, 0, 0, 2);
        tells("TURN 1", star(TURN, 1, 2), 0, 0, 0, 2);
    }

    private static void stores() {
        PowerBonds x = new PowerBonds();
        x.part(JOIN, 0, 11);
        x.part(STORE, 0, 11);
        x.part(STORE, 0, 11);
        x.part(STORE, 1, 11);
        x.bond(0, 1);
        x.bond(2, 0);
        x.bond(0, 3);
        tells("of two alike the least bits", x, 0, 2, 2, 3);
        x.dual();
        tells("its dual", x, 4, 2, 4, 3);
        x = star(JOIN, 1, 3);
        x.part(GIVE, 0, 11);
        x.bond(4, 0);
        tells("a GIVE that settles at a JOIN 1", x, 3, 0, 0, 3);
        x.part(GIVE, 1, 11);
        x.bond(0, 5);
        tells("and one that does not", x, 7, 0, 0, 1);
    }

    /** Twelve bonds, as many as there can be. */
    private static void widest() {
        PowerBonds x = new PowerBonds();
        x.part(JOIN, 0, 11);
        x.part(JOIN, 1, 11);
        for (int i = 0; i < 12; i++) {
            x.bond(0, 1);
        }
        tells("JOINS of unlike sorts", x, 1, 0, 0, 12);
        DUE.due("can(4096)", x.can(4096), PowerBonds.BAD);
        DUE.due("can(4095)", x.can(4095), 0);
        DUE.due("can(2048)", x.can(2048), 1);
        x = new PowerBonds();
        x.part(JOIN, 0, 11);
        x.part(JOIN, 0, 11);
        for (int i = 0; i < 12; i++) {
            x.bond(0, 1);
        }
        tells("JOINS of one sort", x, 0, 0, 0, 0);
    }

    /** What was there ahead of a change is gone. */
    private static void changes() {
        PowerBonds x = star(JOIN, 0, 3);
        tells("three ends", x, 1, 0, 0, 3);
        x.breaks(0);
        x.part(LOSS, 0, 11);
        x.bond(1, 4);
        tells("two ends and a pair", x, 1, 0, 0, 4);
        x.dual();
        tells("the dual of these", x, 1, 0, 0, 4);
        x.part(GIVE, 0, 11);
        x.part(GIVE, 1, 11);
        x.bond(6, 5);
        tells("one pair more", x, 8 + 1, 0, 0, 4);
    }

    private static void refusals() {
        PowerBonds x = pair(LOSS, 0, GIVE, 0);
        for (int what : new int[] {-1, 4, Integer.MIN_VALUE, Integer.MAX_VALUE}) {
            DUE.due("strokes(" + what + ")", x.strokes(what), PowerBonds.BAD);
        }
        for (int bits : new int[] {-1, 2, 3, Integer.MIN_VALUE, Integer.MAX_VALUE}) {
            DUE.due("can(" + bits + ")", x.can(bits), PowerBonds.BAD);
        }
        x.part(LOSS, 0, 11);
        for (int what = 0; what < 4; what++) {
            DUE.due("not whole: strokes(" + what + ")", x.strokes(what), PowerBonds.NO);
        }
        DUE.due("not whole: strokes(4)", x.strokes(4), PowerBonds.BAD);
        DUE.due("not whole: can(1)", x.can(1), PowerBonds.NO);
        DUE.due("not whole: can(2)", x.can(2), PowerBonds.BAD);
        DUE.due("not whole: of(0, 5)", x.of(0, 5), PowerBonds.NO);
    }
}
