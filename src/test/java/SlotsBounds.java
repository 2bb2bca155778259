/** Boundary cases of promises 31 to 34. */
final class SlotsBounds {
    private static final int MIN = Bounds.MIN, MAX = Bounds.MAX, BAD = Bounds.BAD, NO = Bounds.NO, NOTHING = Bounds.NOTHING;
    private static final int KIND = Bounds.KIND, INDEX = Bounds.INDEX;
    private static final int STORE = Bounds.STORE, LOSS = Bounds.LOSS, GIVE = Bounds.GIVE, TURN = Bounds.TURN, JOIN = Bounds.JOIN;

    private SlotsBounds() {
    }

    static void ask(Bounds b) {
        layValues(b);
        layThings(b);
        layHeld(b);
        layRefused(b);
        askValues(b);
        askKinds(b);
        askForGood(b);
        itemValues(b);
        itemOwnRow(b);
        restValues(b);
        restSigns(b);
    }

    /** SLOT 0 a PART, 1 a SHEET of three places, 2 a number, 3 and 4 nothing. */
    private static PowerBonds slots() {
        PowerBonds x = new PowerBonds();
        x.part(LOSS, 0, 91);
        x.sheet(2, 1, 3);
        x.lay(0, 1, 0);
        x.lay(1, 2, 2);
        x.lay(2, 3, 17);
        return x;
    }

    private static void layValues(Bounds b) {
        b.promise(31, "BAD: slot, 0 .. 4");
        b.within("lay(slot, 0, 0)", slot -> slots().lay(slot, 0, 0), 0, 4, BAD);
        b.promise(31, "BAD: thing, 0 .. 3");
        b.within("lay(3, thing, 0)", thing -> slots().lay(3, thing, 0) == NOTHING ? 0 : slots().lay(3, thing, 0), 0, 3, BAD);
        b.promise(31, "BAD: k, of a PART that is there");
        b.within("lay(3, 1, k) of one", k -> slots().lay(3, 1, k), 0, 0, BAD);
        b.within("lay(3, 1, k) of twelve", k -> Bounds.parts(JOIN, 12).lay(3, 1, k), 0, 11, BAD);
        b.each("lay(3, 1, k) of none", k -> new PowerBonds().lay(3, 1, k), BAD, -1, 0, 1, MIN, MAX);
        b.promise(31, "BAD: k, of a SHEET 0 .. 3; NOTHING: that SHEET is MISSING");
        b.within("lay(3, 2, k)", k -> slots().lay(3, 2, k), 0, 3, BAD);
        b.each("lay(3, 2, k)", k -> slots().lay(3, 2, k), NOTHING, 0, 1, 3);
        b.due("lay(3, 2, 2)", slots().lay(3, 2, 2), 0);
        b.promise(31, "nothing and a number: k is any");
        b.each("lay(3, 0, k)", k -> slots().lay(3, 0, k), 0, MIN, -1, 0, 4, 5, 12, MAX);
        b.each("lay(3, 3, k)", k -> slots().lay(3, 3, k), 0, MIN, -1, 0, 4, 5, 12, MAX);
        b.promise(31, "BAD stands ahead of NOTHING");
        b.due("lay(5, 2, 0)", slots().lay(5, 2, 0), BAD);
        b.due("lay(-1, 2, 0)", slots().lay(-1, 2, 0), BAD);
    }

    private static void layThings(Bounds b) {
        b.promise(31, "what it held (0 .. 3), from each to each");
        for (int was = 0; was <= 3; was++) {
            for (int next = 0; next <= 3; next++) {
                PowerBonds x = slots();
                x.lay(4, was, was == 2 ? 2 : 0);
                b.due("thing " + next + " behind " + was, x.lay(4, next, next == 2 ? 2 : 0), was);
                b.due("and that is held", x.lay(4, 0, 0), next);
                b.due("and nothing is", x.lay(4, 0, 0), 0);
            }
        }
    }

    private static void layHeld(Bounds b) {
        b.promise(31, "SLOTS 0 .. 4 each hold their own");
        PowerBonds x = new PowerBonds();
        for (int slot = 0; slot < 5; slot++) {
            x.lay(slot, 3, 100 + slot);
        }
        for (int slot = 0; slot < 5; slot++) {
            b.due("SLOT " + slot, x.rest(slot, 1000), 100 + slot);
        }
        x.lay(2, 0, 0);
        b.due("SLOT 2 holds nothing", x.rest(2, 1000), NOTHING);
        b.due("SLOT 1 stays", x.rest(1, 1000), 101);
        b.due("SLOT 3 stays", x.rest(3, 1000), 103);
    }

    private static void layRefused(Bounds b) {
        b.promise(31, "a refused call changes nothing");
        PowerBonds x = slots();
        b.due("a PART that is not there", x.lay(2, 1, 1), BAD);
        b.due("a SHEET that is none", x.lay(2, 2, 4), BAD);
        b.due("a SHEET that is MISSING", x.lay(2, 2, 0), NOTHING);
        b.due("another thing", x.lay(2, 4, 0), BAD);
        b.due("the number is held", x.rest(2, 100), 17);
        b.due("a SHEET that is MISSING", x.lay(0, 2, 0), NOTHING);
        b.due("the PART is held", x.ask(0, LOSS), 9);
        b.due("a PART that is not there", x.lay(1, 1, 1), BAD);
        b.due("the SHEET is held", x.item(1, 2), 0);
    }

    private static void askValues(Bounds b) {
        PowerBonds x = slots();
        b.promise(32, "BAD: slot, 0 .. 4");
        b.within("ask(slot, 0)", slot -> x.ask(slot, 0), 0, 4, BAD);
        b.promise(32, "a KIND (0 .. 5)");
        b.within("ask(0, kind)", kind -> x.ask(0, kind), 0, 5, BAD);
        b.promise(32, "BAD stands ahead of NOTHING, KIND");
        b.each("ask(3, kind)", kind -> x.ask(3, kind), BAD, -1, 6, MIN, MAX);
        b.each("ask(1, kind)", kind -> x.ask(1, kind), BAD, -1, 6, MIN, MAX);
        b.promise(32, "NOTHING");
        b.each("ask(slot, 0)", slot -> x.ask(slot, 0), NOTHING, 3, 4);
        b.promise(32, "KIND: it is no PART");
        b.each("ask(slot, 0)", slot -> x.ask(slot, 0), KIND, 1, 2);
    }

    private static void askKinds(Bounds b) {
        b.promise(32, "KIND: not of that KIND, nor of one under it");
        String[] of = {"0", "01", "02", "023", "04", "045"};
        for (int kind = 0; kind < 6; kind++) {
            PowerBonds x = new PowerBonds();
            x.part(kind, 1, 31);
            x.lay(4, 1, 0);
            for (int wanted = 0; wanted < 6; wanted++) {
                b.due("kind " + kind + " for " + wanted, x.ask(4, wanted), of[kind].indexOf('0' + wanted) >= 0 ? 3 : KIND);
            }
        }
        b.promise(32, "WORTH of the SHARE, the smallest and the largest");
        int[][] shares = {{11, 1}, {91, 9}, {99, 1}};
        PowerBonds x = Bounds.parts(STORE, 1);
        for (int[] share : shares) {
            x.set(0, 2, share[0]);
            x.lay(0, 1, 0);
            b.due("SHARE " + share[0], x.ask(0, STORE), share[1]);
        }
        x.set(0, 2, 19);
        x.lay(0, 1, 0);
        b.due("SHARE 19, times 9", x.ask(0, STORE) * 9L % Bounds.PRIME, 1);
    }

    private static void askForGood(Bounds b) {
        b.promise(32, "a PART (as it is then, for good)");
        PowerBonds x = new PowerBonds();
        x.keep();
        x.part(TURN, 0, 21);
        x.lay(0, 1, 0);
        x.set(0, 2, 31);
        b.due("its SHARE becomes another one", x.ask(0, TURN), 2);
        x.dual();
        b.due("the machine becomes its DUAL", x.ask(0, TURN), 2);
        x.lay(1, 1, 0);
        b.due("laid now: 1 by 3", x.ask(1, TURN) * 3L % Bounds.PRIME, 1);
        x.back();
        b.due("there is no such PART", x.ask(0, TURN), 2);
        x.part(GIVE, 0, 11);
        b.due("another one has its number", x.ask(0, TURN), 2);
        b.due("it is no GIVE", x.ask(0, GIVE), KIND);
    }

    private static void itemValues(Bounds b) {
        PowerBonds x = slots();
        b.promise(33, "BAD: slot, 0 .. 4");
        b.within("item(slot, 0)", slot -> x.item(slot, 0), 0, 4, BAD);
        b.promise(33, "NOTHING; KIND: it is no SHEET");
        b.each("item(slot, 0)", slot -> x.item(slot, 0), NOTHING, 3, 4);
        b.each("item(slot, 0)", slot -> x.item(slot, 0), KIND, 0, 2);
        b.promise(33, "INDEX");
        b.within("item(1, place)", place -> x.item(1, place), 0, 2, INDEX);
        b.due("item(1, 23) of three", x.item(1, 23), INDEX);
        b.promise(33, "BAD, then NOTHING, then KIND, then INDEX");
        b.each("item(5, place)", place -> x.item(5, place), BAD, -1, 24);
        b.each("item(3, place)", place -> x.item(3, place), NOTHING, -1, 24, MIN, MAX);
        b.each("item(2, place)", place -> x.item(2, place), KIND, -1, 24, MIN, MAX);
        b.promise(33, "of no places and of 24");
        x.sheet(0, 0, 0);
        x.lay(4, 2, 0);
        b.each("item(4, place)", place -> x.item(4, place), INDEX, -1, 0, 1);
        x.sheet(0, 2, 24);
        x.mark(0, 23, MIN);
        x.lay(4, 2, 0);
        b.within("item(4, place)", place -> x.item(4, place), 0, 23, INDEX);
        b.due("the last", x.item(4, 23), MIN);
    }

    private static void itemOwnRow(Bounds b) {
        b.promise(33, "a SHEET (a row of its own, as it was then)");
        PowerBonds x = new PowerBonds();
        x.sheet(0, 0, 2);
        x.mark(0, 0, 40000);
        x.mark(0, 1, -3);
        x.lay(0, 2, 0);
        x.lay(1, 2, 0);
        x.mark(0, 0, 5);
        b.due("shorts with their sign", x.item(0, 0), 40000 - 65536);
        b.due("the second", x.item(0, 1), -3);
        x.copy(0, 0, 0, 1, 1);
        b.due("behind copy", x.item(0, 1), -3);
        x.sheet(0, 1, 24);
        b.due("behind sheet", x.item(0, 1), -3);
        b.due("no place more", x.item(0, 2), INDEX);
        x.sheet(0, -1, 0);
        b.due("MISSING", x.item(0, 1), -3);
        x.lay(0, 3, 1);
        b.due("another SLOT has a row of its own", x.item(1, 1), -3);
    }

    private static void restValues(Bounds b) {
        PowerBonds x = slots();
        b.promise(34, "BAD: slot, 0 .. 4");
        b.within("rest(slot, 1)", slot -> x.rest(slot, 1), 0, 4, BAD);
        b.promise(34, "NOTHING; KIND: it is no number; NO: n is 0");
        b.each("rest(slot, 1)", slot -> x.rest(slot, 1), NOTHING, 3, 4);
        b.each("rest(slot, 1)", slot -> x.rest(slot, 1), KIND, 0, 1);
        b.due("rest(2, 0)", x.rest(2, 0), NO);
        b.promise(34, "BAD, then NOTHING, then KIND, then NO");
        b.due("rest(5, 0)", x.rest(5, 0), BAD);
        b.due("rest(4, 0)", x.rest(4, 0), NOTHING);
        b.due("rest(0, 0)", x.rest(0, 0), KIND);
        b.due("rest(1, 0)", x.rest(1, 0), KIND);
    }

    private static void restSigns(Bounds b) {
        b.promise(34, "the rest (with its sign) of the number by n");
        int[][] rests = {{17, 5, 2}, {-17, 5, -2}, {17, -5, 2}, {-17, -5, -2}, {0, 5, 0}, {0, MIN, 0}, {5, 1, 0}, {5, -1, 0}, {-5, -1, 0},
            {MIN, -1, 0}, {MIN, 1, 0}, {MAX, -1, 0}, {MIN, MIN, 0}, {MAX, MAX, 0}, {MIN, MAX, -1}, {MAX, MIN, MAX}, {4, 5, 4}, {-4, 5, -4},
            {MIN, 10, -8}, {MAX, 10, 7}};
        PowerBonds x = new PowerBonds();
        for (int[] rest : rests) {
            x.lay(4, 3, rest[0]);
            b.due(rest[0] + " by " + rest[1], x.rest(4, rest[1]), rest[2]);
            b.due(rest[0] + " by 0", x.rest(4, 0), NO);
        }
    }
}
