/** Boundary cases of promises 20 to 26. */
final class MovesBounds {
    private static final int MIN = Bounds.MIN, MAX = Bounds.MAX, BAD = Bounds.BAD, NO = Bounds.NO, MANY = Bounds.MANY, NONE = Bounds.NONE;
    private static final int PRIME = Bounds.PRIME;
    private static final int PART = Bounds.PART, STORE = Bounds.STORE, LOSS = Bounds.LOSS, GIVE = Bounds.GIVE, TURN = Bounds.TURN,
        JOIN = Bounds.JOIN;

    private MovesBounds() {
    }

    static void ask(Bounds b) {
        movesValues(b);
        movesHolds(b);
        movesRefused(b);
        signsValues(b);
        signsOfNine(b);
        signsOfKinds(b);
        signsRefused(b);
        apartValues(b);
        apartRefused(b);
        dual(b);
        dualOfTurns(b);
        dualAnswer(b);
        rings(b);
        ringsOfTwelve(b);
        wayValues(b);
        wayLong(b);
        worthValues(b);
        worthBy(b);
    }

    /** JOIN 0 (part 0) with GIVE 0 (1), STORE 1 (2), LOSS 1 2 by 1 (3); bonds 0 .. 2 from the JOIN in this order. */
    private static PowerBonds machine() {
        PowerBonds x = new PowerBonds();
        x.part(JOIN, 0, 11);
        x.part(GIVE, 0, 11);
        x.part(STORE, 1, 11);
        x.part(LOSS, 1, 21);
        for (int i = 1; i <= 3; i++) {
            x.bond(0, i);
            x.set(i, 3, 10 * i);
        }
        return x;
    }

    private static void movesValues(Bounds b) {
        b.promise(20, "BAD: also if it is no GIVE");
        PowerBonds x = machine();
        b.each("moves(give, 0, 0)", give -> x.moves(give, 0, 0), BAD, MIN, -1, 0, 2, 3, 4, 11, 12, MAX);
        b.due("moves(1, 0, 0)", x.moves(1, 0, 0), 1);
        b.promise(20, "BAD: a BOND that is not there");
        b.within("moves(1, bond, 0)", bond -> x.moves(1, bond, 0), 0, 2, BAD);
        b.promise(20, "what 0 PUSH, 1 PACE");
        b.within("moves(1, 0, what)", what -> x.moves(1, 0, what), 0, 1, BAD);
        b.promise(20, "the last GIVE and the last BOND of twelve");
        PowerBonds full = new PowerBonds();
        full.part(JOIN, 0, 11);
        for (int i = 1; i < 11; i++) {
            full.part(LOSS, 1, 11);
            full.bond(i, 0);
        }
        full.part(GIVE, 0, 11);
        full.bond(11, 0);
        b.due("moves(11, 10, 0)", full.moves(11, 10, 0), 1);
        b.due("moves(11, 10, 1)", full.moves(11, 10, 1), PRIME - 10);
        b.due("moves(11, 11, 0)", full.moves(11, 11, 0), BAD);
    }

    private static void movesHolds(Bounds b) {
        b.promise(20, "with this GIVE's HOLD 1, all other HOLDS (of STORES, too) 0");
        PowerBonds x = machine();
        b.due("PACE of the GIVE as it is", x.of(0, 3), PRIME - 40);
        b.due("PACE of the GIVE by itself", x.moves(1, 0, 1), PRIME - 2);
        b.due("PACE of the STORE", x.moves(1, 1, 1), 0);
        x.set(1, 3, 0);
        b.due("whatever it holds", x.moves(1, 0, 1), PRIME - 2);
        x.set(1, 3, -1);
        b.due("whatever it holds", x.moves(1, 0, 0), 1);
        b.due("HOLDS stay: of the GIVE", x.told(1, 3), PRIME - 1);
        b.due("HOLDS stay: of the STORE", x.told(2, 3), 20);
        PowerBonds y = Bounds.pair(GIVE, 0, GIVE, 1);
        y.set(0, 3, 5);
        y.set(1, 3, 6);
        b.due("the one's PUSH", y.moves(0, 0, 0), 1);
        b.due("the one's PACE is that of the other, 0", y.moves(0, 0, 1), 0);
        b.due("the other's PUSH", y.moves(1, 0, 0), 0);
        b.due("the other's PACE", y.moves(1, 0, 1), 1);
    }

    private static void movesRefused(Bounds b) {
        b.promise(20, "NO: not WHOLE");
        PowerBonds x = machine();
        x.part(LOSS, 0, 11);
        b.due("moves(1, 0, 0)", x.moves(1, 0, 0), NO);
        b.promise(20, "BAD stands ahead of NO");
        b.due("moves(0, 0, 0)", x.moves(0, 0, 0), BAD);
        b.due("moves(1, 3, 0)", x.moves(1, 3, 0), BAD);
        b.due("moves(1, 0, 2)", x.moves(1, 0, 2), BAD);
        b.promise(20, "there may be none, or MANY, of that, whatever THE ANSWER has");
        PowerBonds y = machine();
        Bounds.tieGives(y, 1);
        b.due("THE ANSWER: none", y.answers(), NO);
        b.due("of a GIVE elsewhere MANY", y.moves(1, 0, 0), MANY);
        b.due("of one of these none", y.moves(4, 0, 0), NO);
        y.set(4, 3, 0);
        b.due("THE ANSWER: MANY", y.answers(), MANY);
        b.due("of one of these none", y.moves(5, 0, 0), NO);
    }

    private static void signsValues(Bounds b) {
        b.promise(21, "BAD: a PART that is not there");
        b.each("signs(part) of none", part -> new PowerBonds().signs(part), BAD, MIN, -1, 0, 1, 11, 12, MAX);
        PowerBonds x = machine();
        b.within("signs(part) of four", x::signs, 0, 3, BAD);
        b.promise(21, "bits of BONDS, to BOND 11");
        PowerBonds full = new PowerBonds();
        full.part(JOIN, 0, 11);
        full.part(JOIN, 1, 11);
        full.bond(0, 1);
        for (int i = 2; i < 12; i++) {
            full.part(i == 11 ? GIVE : LOSS, i == 11 ? 0 : i / 7, 11);
            full.bond(i < 7 ? 0 : 1, i);
        }
        full.bond(1, 0);
        full.set(11, 3, 1);
        b.due("answers()", full.answers(), 1);
        b.due("signs of a LOSS at the other JOIN", full.signs(2), 0);
        b.due("signs of a LOSS beside the GIVE", full.signs(8), 0b111111000001);
    }

    /** PUSH of the LOSS of 9 comes to the JOIN, those of 5 and 5 go: 9 F is 10 F, so F is 0; with 10 F there are MANY. */
    private static void signsOfNine(Bounds b) {
        b.promise(21, "with a of 10 then, if it was 9");
        PowerBonds x = new PowerBonds();
        x.part(JOIN, 1, 11);
        x.part(LOSS, 0, 91);
        x.part(LOSS, 0, 51);
        x.part(LOSS, 0, 51);
        x.bond(1, 0);
        x.bond(0, 2);
        x.bond(0, 3);
        b.due("one ANSWER", x.answers(), 1);
        b.due("MANY with 10 by 1", x.signs(1), MANY);
        b.due("SHARE stays", x.told(1, 2), 91);
        x.set(1, 2, 99);
        b.due("10 by 9", x.signs(1), 0);
        b.due("SHARE stays", x.told(1, 2), 99);
        PowerBonds y = Bounds.pair(GIVE, 0, LOSS, 0);
        y.set(0, 3, 90);
        y.set(1, 2, 91);
        b.due("PACE is 10, then 9", y.signs(1), 1);
    }

    private static void signsOfKinds(Bounds b) {
        b.promise(21, "BONDS of which PUSH or PACE is another one");
        for (int kind : new int[] {PART, GIVE}) {
            PowerBonds x = Bounds.pair(kind, 0, GIVE, 1);
            x.set(1, 3, 7);
            b.due("of kind " + kind + " none", x.signs(0), 0);
        }
        PowerBonds x = Bounds.pair(STORE, 0, GIVE, 1);
        b.due("of a STORE that holds 0", x.signs(0), 0);
        x.set(0, 3, 1);
        b.due("PUSH alone", x.signs(0), 1);
        PowerBonds y = Bounds.pair(LOSS, 0, GIVE, 0);
        y.set(1, 3, 1);
        b.due("PACE alone", y.signs(0), 1);
        PowerBonds z = new PowerBonds();
        z.part(TURN, 0, 11);
        z.part(GIVE, 0, 11);
        z.part(LOSS, 0, 11);
        z.bond(0, 1);
        z.bond(0, 2);
        b.due("of a TURN with nothing to turn", z.signs(0), 0);
        z.set(1, 3, 12);
        b.due("of a TURN", z.signs(0), 3);
        b.due("a JOIN has a SHARE without a law", machine().signs(0), 0);
    }

    private static void signsRefused(Bounds b) {
        b.promise(21, "NO, MANY: THE ANSWER as it is");
        PowerBonds x = Bounds.pair(LOSS, 0, LOSS, 0);
        b.due("MANY as it is, one with that SHARE", x.signs(0), MANY);
        x.part(LOSS, 0, 11);
        b.due("not WHOLE", x.signs(0), NO);
        b.due("BAD stands ahead of NO", x.signs(3), BAD);
        PowerBonds y = machine();
        Bounds.tieGives(y, 1);
        b.due("none as it is", y.signs(3), NO);
        b.promise(21, "else with that SHARE");
        PowerBonds z = Bounds.pair(LOSS, 0, LOSS, 0);
        z.set(0, 2, 21);
        b.due("one as it is", z.answers(), 1);
        b.due("MANY with 2 by 1", z.signs(1), MANY);
        b.due("one with 3 by 1", z.signs(0), 0);
        PowerBonds none = ringOfLosses();
        b.due("one as it is", none.answers(), 1);
        b.due("none with 2 by 1", none.signs(2), NO);
        b.due("SHARE stays", none.told(2, 2), 11);
    }

    /** PUSHES at JOIN 1: that of the LOSS of 2 goes, those of the LOSS of 1 and of the GIVE come: 2 F is F and 1. */
    private static PowerBonds ringOfLosses() {
        PowerBonds x = new PowerBonds();
        x.part(JOIN, 1, 11);
        x.part(LOSS, 0, 21);
        x.part(LOSS, 0, 11);
        x.part(GIVE, 0, 11);
        x.bond(0, 1);
        x.bond(2, 0);
        x.bond(3, 0);
        x.set(3, 3, 1);
        return x;
    }

    private static void apartValues(Bounds b) {
        PowerBonds x = machine();
        b.promise(22, "BAD: PARTS that are not there");
        b.within("apart(one, 0)", one -> x.apart(one, one == 0 ? 1 : 0), 0, 3, BAD);
        b.within("apart(0, other)", other -> x.apart(other == 0 ? 1 : 0, other), 0, 3, BAD);
        b.promise(22, "BAD: also if they are one");
        b.each("apart(part, part)", part -> x.apart(part, part), BAD, 0, 1, 2, 3, 4, -1, MIN, MAX);
        b.promise(22, "1, 0");
        b.due("STORE and LOSS: BOND 1 and BOND 2, both with BOND 0", x.apart(2, 3), 1);
        b.due("JOIN and GIVE: none", x.apart(0, 1), 0);
        b.due("GIVE and JOIN: none", x.apart(1, 0), 0);
        b.due("GIVE and LOSS: none and some", x.apart(1, 3), 1);
        b.due("LOSS and GIVE: some and none", x.apart(3, 1), 1);
    }

    private static void apartRefused(Bounds b) {
        b.promise(22, "NO, MANY: of the one; else of the other");
        PowerBonds x = ringOfLosses();
        x.part(LOSS, 0, 21);
        x.part(LOSS, 0, 11);
        x.bond(4, 5);
        b.due("SIGNS of part 2: none", x.signs(2), NO);
        b.due("SIGNS of part 5: MANY", x.signs(5), MANY);
        b.due("apart(2, 5)", x.apart(2, 5), NO);
        b.due("apart(5, 2)", x.apart(5, 2), MANY);
        b.due("apart(1, 2), of the other", x.apart(1, 2), NO);
        b.due("apart(1, 5), of the other", x.apart(1, 5), MANY);
        b.due("apart(5, 1), of the one", x.apart(5, 1), MANY);
        b.due("apart(1, 4)", x.apart(1, 4), 1);
        b.promise(22, "NO: not WHOLE; BAD stands ahead");
        x.part(LOSS, 0, 11);
        b.due("apart(1, 4)", x.apart(1, 4), NO);
        b.due("apart(1, 7)", x.apart(1, 7), BAD);
        b.due("apart(1, 1)", x.apart(1, 1), BAD);
    }

    private static void dual(Bounds b) {
        b.promise(23, "how many PARTS have another SORT: from none to twelve");
        b.due("of no PARTS", new PowerBonds().dual(), 0);
        for (int kind = 0; kind < 6; kind++) {
            PowerBonds x = new PowerBonds();
            for (int i = 0; i < 12; i++) {
                x.part(kind, i % 2, 29);
            }
            x.set(11, 3, 7);
            b.due("of twelve of kind " + kind, x.dual(), kind == TURN ? 0 : 12);
            for (int i = 0; i < 12; i += 11) {
                b.due("SORT of " + i, x.told(i, 1), kind == TURN ? i % 2 : 1 - i % 2);
                b.due("SHARE of " + i, x.told(i, 2), kind == TURN ? 92 : 29);
            }
            b.due("HOLD stays", x.told(11, 3), 7);
            b.due("again", x.dual(), kind == TURN ? 0 : 12);
            b.due("SORT as at first", x.told(11, 1), 1);
            b.due("SHARE as at first", x.told(11, 2), 29);
        }
    }

    private static void dualOfTurns(Bounds b) {
        b.promise(23, "of TURNS SHARE is b by a, the smallest and the largest");
        PowerBonds x = new PowerBonds();
        int[] shares = {11, 19, 91, 99};
        int[] others = {11, 91, 19, 99};
        for (int share : shares) {
            x.part(TURN, 1, share);
        }
        b.due("dual()", x.dual(), 0);
        for (int i = 0; i < 4; i++) {
            b.due("SHARE of " + shares[i], x.told(i, 2), others[i]);
        }
        b.promise(23, "all else as it is");
        PowerBonds y = machine();
        y.run(3);
        Tape.text(y, "give 1 t");
        y.dual();
        b.due("BONDS", y.count(1), 3);
        b.due("from", y.of(2, 0), 0);
        b.due("the STEP", y.count(7), 3);
        b.due("TEXTS", y.count(4), 1);
    }

    private static void dualAnswer(Bounds b) {
        b.promise(23, "PUSHES are then what PACES were");
        PowerBonds x = new PowerBonds();
        x.part(GIVE, 0, 11);
        x.part(TURN, 0, 29);
        x.part(JOIN, 1, 11);
        x.part(STORE, 0, 73);
        x.part(TURN, 1, 81);
        x.part(LOSS, 1, 15);
        x.bond(0, 1);
        x.bond(1, 2);
        x.bond(2, 3);
        x.bond(4, 2);
        x.bond(5, 4);
        x.set(0, 3, -1);
        x.set(3, 3, 12345);
        b.due("one ANSWER", x.answers(), 1);
        int[] push = new int[5];
        int[] pace = new int[5];
        for (int i = 0; i < 5; i++) {
            push[i] = x.of(i, 2);
            pace[i] = x.of(i, 3);
        }
        b.due("dual()", x.dual(), 4);
        for (int i = 0; i < 5; i++) {
            b.due("PUSH of " + i, x.of(i, 2), pace[i]);
            b.due("PACE of " + i, x.of(i, 3), push[i]);
        }
    }

    private static void rings(Bounds b) {
        b.promise(24, "BONDS less PARTS, plus PIECES (a PART alone is one)");
        PowerBonds x = new PowerBonds();
        b.due("of nothing", x.rings(), 0);
        for (int i = 0; i < 12; i++) {
            x.part(JOIN, 0, 11);
            b.due("of " + (i + 1) + " PARTS alone", x.rings(), 0);
        }
        for (int i = 0; i < 11; i++) {
            x.bond(i % 2 == 0 ? i : i + 1, i % 2 == 0 ? i + 1 : i);
            b.due("of a row of " + (i + 2), x.rings(), 0);
        }
        x.bond(11, 0);
        b.due("the row is a ring", x.rings(), 1);
        x.breaks(5);
        b.due("a BOND breaks", x.rings(), 0);
        x.breaks(5);
        b.due("two pieces", x.rings(), 0);
    }

    private static void ringsOfTwelve(Bounds b) {
        b.promise(24, "whole or not, as many as there can be");
        PowerBonds x = Bounds.parts(LOSS, 12);
        for (int i = 0; i < 12; i++) {
            b.due("with " + i + " BONDS between two", x.rings(), Math.max(0, i - 1));
            x.bond(i % 2 == 0 ? 10 : 11, i % 2 == 0 ? 11 : 10);
        }
        b.due("with twelve", x.rings(), 11);
        PowerBonds y = Bounds.parts(JOIN, 12);
        for (int i = 0; i < 6; i++) {
            y.bond(i, 11 - i);
            y.bond(11 - i, i);
        }
        b.due("six pieces with a ring each", y.rings(), 6);
    }

    private static void wayValues(Bounds b) {
        b.promise(25, "BAD: PARTS that are not there");
        b.due("of none", new PowerBonds().way(0, 0), BAD);
        PowerBonds x = Bounds.parts(JOIN, 3);
        x.bond(0, 1);
        x.bond(2, 1);
        b.within("way(one, 0)", one -> x.way(one, 0), 0, 2, BAD);
        b.within("way(0, other)", other -> x.way(0, other), 0, 2, BAD);
        b.each("way(part, part)", part -> x.way(part, part), BAD, -1, 3, MIN, MAX);
        b.promise(25, "of one: 0");
        b.each("way(part, part)", part -> x.way(part, part), 0, 0, 1, 2);
        b.due("of a PART alone", Bounds.parts(PART, 1).way(0, 0), 0);
        b.promise(25, "the fewest BONDS, whichever way they go");
        b.due("way(0, 2)", x.way(0, 2), 2);
        b.due("way(2, 0)", x.way(2, 0), 2);
        x.bond(2, 0);
        b.due("a shorter one", x.way(0, 2), 1);
        b.promise(25, "NONE");
        x.part(JOIN, 0, 11);
        b.due("way(0, 3)", x.way(0, 3), NONE);
        b.due("way(3, 0)", x.way(3, 0), NONE);
    }

    private static void wayLong(Bounds b) {
        b.promise(25, "from 0 to eleven BONDS");
        PowerBonds x = Bounds.parts(TURN, 12);
        for (int i = 11; i > 0; i--) {
            x.bond(i, i - 1);
        }
        for (int i = 0; i < 12; i++) {
            b.due("way(0, " + i + ")", x.way(0, i), i);
            b.due("way(" + i + ", 11)", x.way(i, 11), 11 - i);
        }
        x.bond(0, 11);
        b.due("the short way round", x.way(0, 11), 1);
        b.due("the longest of a ring", x.way(0, 6), 6);
        b.due("round the other way", x.way(0, 7), 5);
        x.breaks(0);
        x.breaks(0);
        b.due("cut off", x.way(0, 10), NONE);
        b.due("not cut off", x.way(0, 11), 1);
    }

    private static void worthValues(Bounds b) {
        PowerBonds x = new PowerBonds();
        b.promise(26, "BAD: what");
        b.within("worth(what, 1, 1)", what -> x.worth(what, 1, 1), 0, 1, BAD);
        b.promise(26, "BAD stands ahead of NO");
        b.each("worth(what, 1, 0)", what -> x.worth(what, 1, 0), BAD, -1, 2, MIN, MAX);
        b.promise(26, "WORTH of a number (what 0): its rest, 0 and more; b is any");
        int[][] worths = {{0, 0}, {1, 1}, {PRIME - 1, PRIME - 1}, {PRIME, 0}, {PRIME + 1, 1}, {2 * PRIME - 1, PRIME - 1}, {2 * PRIME, 0},
            {-1, PRIME - 1}, {1 - PRIME, 1}, {-PRIME, 0}, {-1 - PRIME, PRIME - 1}, {-2 * PRIME, 0}, {MAX, 477206}, {MIN, 522796}};
        for (int[] worth : worths) {
            b.each("worth(0, " + worth[0] + ", b)", any -> x.worth(0, worth[0], any), worth[1], 0, 1, -1, PRIME, MIN, MAX);
        }
    }

    private static void worthBy(Bounds b) {
        PowerBonds x = new PowerBonds();
        b.promise(26, "NO: WORTH of b is 0");
        b.each("worth(1, 5, b)", by -> x.worth(1, 5, by), NO, 0, PRIME, -PRIME, 2 * PRIME, -2 * PRIME, 2147 * PRIME, -2147 * PRIME);
        b.each("worth(1, 0, b)", by -> x.worth(1, 0, by), NO, 0, PRIME);
        b.promise(26, "of one by another one: the WORTH that times b is a");
        int[] numbers = {1, 2, 3, 1000, PRIME - 1, PRIME + 1, -1, -2, 1 - PRIME, MAX, MIN};
        for (int by : numbers) {
            long worth = x.worth(1, 7, by);
            b.due("7 by " + by + ", times that", Math.floorMod(worth * by, (long) PRIME), 7);
            b.due("0 by " + by, x.worth(1, 0, by), 0);
            b.due("1000003 by " + by, x.worth(1, PRIME, by), 0);
            b.due(by + " by itself", x.worth(1, by, by), 1);
        }
        b.due("-1 by -1", x.worth(1, -1, -1), 1);
        b.due("-1 by 1", x.worth(1, -1, 1), PRIME - 1);
    }
}
