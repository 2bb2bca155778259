/** Boundary cases of promises 8 (what 0 to 4), 9 and 10. */
final class AnswersBounds {
    private static final int MIN = Bounds.MIN, MAX = Bounds.MAX, BAD = Bounds.BAD, NO = Bounds.NO, MANY = Bounds.MANY, PRIME = Bounds.PRIME;
    private static final int PART = Bounds.PART, STORE = Bounds.STORE, LOSS = Bounds.LOSS, GIVE = Bounds.GIVE, TURN = Bounds.TURN,
        JOIN = Bounds.JOIN;

    private AnswersBounds() {
    }

    static void ask(Bounds b) {
        ofValues(b);
        ofRefused(b);
        power(b);
        lesserBond(b);
        ownLaws(b);
        whole(b);
        wholeByKinds(b);
        answers(b);
        pieces(b);
        widestJoin(b);
        smaller(b);
    }

    private static void ofValues(Bounds b) {
        b.promise(8, "BAD: a BOND that is not there, or another what");
        PowerBonds x = Bounds.pair(GIVE, 0, LOSS, 0);
        b.within("of(0, what)", what -> x.of(0, what), 0, 5, BAD);
        for (int what = 0; what <= 5; what++) {
            int asked = what;
            b.each("of(bond, " + what + ")", bond -> x.of(bond, asked), BAD, -1, 1, 11, 12, MIN, MAX);
        }
        PowerBonds full = Bounds.parts(JOIN, 2);
        for (int i = 0; i < 12; i++) {
            full.bond(i % 2, 1 - i % 2);
        }
        b.within("of(bond, 0) of twelve", bond -> full.of(bond, 0), 0, 11, BAD);
    }

    private static void ofRefused(Bounds b) {
        PowerBonds x = Bounds.pair(GIVE, 0, LOSS, 0);
        x.part(LOSS, 0, 11);
        b.promise(8, "0 from, 1 to, whether it is WHOLE or not");
        b.due("of(0, 0)", x.of(0, 0), 0);
        b.due("of(0, 1)", x.of(0, 1), 1);
        b.promise(8, "of 2 .. 4: NO: not WHOLE");
        b.each("of(0, what)", what -> x.of(0, what), NO, 2, 3, 4);
        b.promise(8, "BAD stands ahead of NO");
        b.due("of(0, 6)", x.of(0, 6), BAD);
        b.due("of(1, 2)", x.of(1, 2), BAD);
        PowerBonds many = Bounds.pair(GIVE, 0, LOSS, 0);
        Bounds.tieGives(many, 0);
        b.promise(8, "of 2 .. 4: MANY, of each BOND, also of one that has one PUSH in all of them");
        b.each("of(0, what)", what -> many.of(0, what), MANY, 2, 3, 4);
        b.each("of(1, what)", what -> many.of(1, what), MANY, 2, 3, 4);
        b.due("of(2, 2)", many.of(2, 2), BAD);
        PowerBonds none = Bounds.pair(GIVE, 0, LOSS, 0);
        Bounds.tieGives(none, 1);
        b.promise(8, "of 2 .. 4: NO: no ANSWER");
        b.each("of(0, what)", what -> none.of(0, what), NO, 2, 3, 4);
        b.each("of(1, what)", what -> none.of(1, what), NO, 2, 3, 4);
        b.due("of(1, 0)", none.of(1, 0), 2);
    }

    private static void power(Bounds b) {
        b.promise(8, "4 power (PUSH times PACE), a WORTH");
        PowerBonds x = Bounds.pair(GIVE, 0, GIVE, 1);
        int[][] carried = {{0, 0, 0}, {0, -1, 0}, {1, -1, PRIME - 1}, {-1, -1, 1}, {1000, 1001, 1001000 - PRIME}, {1, PRIME - 1, PRIME - 1},
            {500002, 2, 1}, {MAX, MIN, (int) (477206L * 522796 % PRIME)}};
        for (int[] c : carried) {
            x.set(0, 3, c[0]);
            x.set(1, 3, c[1]);
            b.due(c[0] + " times " + c[1], x.of(0, 4), c[2]);
        }
        b.promise(8, "2 PUSH, 3 PACE, WORTHS");
        x.set(0, 3, -1);
        x.set(1, 3, PRIME);
        b.due("PUSH of -1", x.of(0, 2), PRIME - 1);
        b.due("PACE of 1000003", x.of(0, 3), 0);
    }

    /** Bonds of the TURN: that of the GIVE and that of the LOSS; as one breaks and comes again, it has the greater number. */
    private static void lesserBond(Bounds b) {
        b.promise(8, "TURN, its BONDS with numbers i, j (i the lesser)");
        PowerBonds x = new PowerBonds();
        x.part(GIVE, 0, 11);
        x.part(TURN, 0, 21);
        x.part(LOSS, 0, 11);
        x.set(0, 3, 12);
        x.bond(0, 1);
        x.bond(1, 2);
        b.due("12 is 2 times it", x.of(1, 2), 6);
        b.due("PACE of j is 2 times that of i", x.of(0, 3), 3);
        x.breaks(0);
        x.bond(0, 1);
        b.due("it is 2 times 12", x.of(0, 2), 24);
        b.due("PACE of j is 2 times 24", x.of(1, 3), 48);
    }

    private static void ownLaws(Bounds b) {
        b.promise(8, "as told of TURN, not by what stands for one another");
        PowerBonds x = new PowerBonds();
        x.part(GIVE, 0, 11);
        x.part(TURN, 1, 21);
        x.part(LOSS, 0, 31);
        x.set(0, 3, 12);
        x.bond(0, 1);
        x.bond(1, 2);
        b.due("PUSH of i is 2 times PACE of j", x.of(1, 3), 6);
        b.due("PUSH of j is 3 times that", x.of(1, 2), 18);
        b.due("PUSH of j is 2 times PACE of i", x.of(0, 3), 9);
        b.promise(8, "LAWS of ends with the largest HOLD and with 0");
        PowerBonds y = Bounds.pair(STORE, 0, PART, 1);
        y.set(0, 2, 91);
        b.due("9 times 0", y.of(0, 2), 0);
        y.set(0, 3, -1);
        b.due("9 times 1000002 wraps around", y.of(0, 2), PRIME - 9);
        b.due("PART of SORT 1: PACE is 0", y.of(0, 3), 0);
        y.set(1, 3, 5);
        b.due("PART of SORT 1: PACE is 0, whatever it holds", y.of(0, 3), 0);
        y.set(0, 2, 19);
        b.due("-1 by 9", y.of(0, 2), y.worth(1, -1, 9));
        PowerBonds z = Bounds.pair(PART, 0, GIVE, 1);
        z.set(0, 3, 5);
        b.due("PART of SORT 0: PUSH is 0, whatever it holds", z.of(0, 2), 0);
    }

    private static void whole(Bounds b) {
        b.promise(9, "WHOLE, if there is a BOND");
        b.due("of no PARTS", new PowerBonds().whole(), 0);
        b.due("of PARTS alone", Bounds.parts(LOSS, 2).whole(), 0);
        PowerBonds x = Bounds.pair(LOSS, 0, LOSS, 1);
        b.due("of two and a BOND", x.whole(), 1);
        b.promise(9, "and each PART has as many as it wants");
        x.part(LOSS, 0, 11);
        b.due("one PART more, the last", x.whole(), 0);
        x.part(LOSS, 0, 11);
        x.bond(3, 2);
        b.due("a piece more", x.whole(), 1);
        x.bond(0, 1);
        b.due("a BOND too many", x.whole(), 0);
        x.breaks(2);
        b.due("that breaks again", x.whole(), 1);
        x.breaks(0);
        b.due("the first PART with none", x.whole(), 0);
        x.breaks(0);
        b.due("the last BOND broke", x.whole(), 0);
    }

    private static void wholeByKinds(Bounds b) {
        b.promise(9, "PART, STORE, LOSS, GIVE 1 just; TURN 2 just; JOIN 2 to 12");
        int[][] wants = {{1, 1}, {1, 1}, {1, 1}, {1, 1}, {2, 2}, {2, 12}};
        for (int kind = 0; kind < 6; kind++) {
            for (int ends = 0; ends <= 11; ends++) {
                PowerBonds x = new PowerBonds();
                x.part(kind, ends % 2, 11);
                for (int i = 1; i <= ends; i++) {
                    x.part(LOSS, 0, 11);
                    x.bond(i % 2 == 0 ? 0 : i, i % 2 == 0 ? i : 0);
                }
                b.due("kind " + kind + " with " + ends, x.whole(), ends >= wants[kind][0] && ends <= wants[kind][1] ? 1 : 0);
            }
        }
        PowerBonds x = Bounds.parts(JOIN, 2);
        for (int ends = 1; ends <= 12; ends++) {
            x.bond(0, 1);
            b.due("two JOINS with " + ends, x.whole(), ends >= 2 ? 1 : 0);
        }
        PowerBonds y = Bounds.parts(TURN, 2);
        for (int ends = 1; ends <= 4; ends++) {
            y.bond(0, 1);
            b.due("two TURNS with " + ends, y.whole(), ends == 2 ? 1 : 0);
        }
    }

    private static void answers(Bounds b) {
        b.promise(10, "NO: not WHOLE");
        b.due("of no PARTS", new PowerBonds().answers(), NO);
        b.due("of a PART alone", Bounds.parts(LOSS, 1).answers(), NO);
        PowerBonds x = Bounds.pair(GIVE, 0, LOSS, 0);
        b.promise(10, "1");
        b.due("GIVE and LOSS", x.answers(), 1);
        x.part(TURN, 0, 11);
        b.promise(10, "NO: not WHOLE");
        b.due("with a TURN alone", x.answers(), NO);
        b.promise(10, "MANY");
        PowerBonds y = Bounds.pair(GIVE, 1, GIVE, 1);
        b.due("two GIVES of the same PACE", y.answers(), MANY);
        b.due("two LOSSES with one law", Bounds.pair(LOSS, 0, LOSS, 1).answers(), MANY);
        b.promise(10, "NO: none");
        y.set(1, 3, PRIME - 1);
        b.due("two GIVES of unlike PACES", y.answers(), NO);
        b.promise(10, "1, by the prime: 1000002 and -1 are one");
        y.set(0, 3, -1);
        b.due("two GIVES of -1 and 1000002", y.answers(), MANY);
    }

    private static void pieces(Bounds b) {
        b.promise(10, "all LAWS at once: a piece with none leaves none, whatever the others have");
        PowerBonds x = Bounds.pair(GIVE, 0, LOSS, 0);
        Bounds.tieGives(x, 0);
        b.due("one and MANY", x.answers(), MANY);
        Bounds.tieGives(x, 5);
        b.due("one, MANY and none", x.answers(), NO);
        x.set(4, 3, 0);
        b.due("one, MANY and MANY", x.answers(), MANY);
        x.set(2, 3, 5);
        b.due("one, none and MANY", x.answers(), NO);
    }

    /** Eleven ends at one JOIN, and twelve BONDS between two. */
    private static void widestJoin(Bounds b) {
        b.promise(10, "a JOIN with as many ENDS as there can be");
        PowerBonds x = new PowerBonds();
        x.part(JOIN, 0, 11);
        x.part(GIVE, 0, 11);
        x.set(1, 3, -1);
        x.bond(1, 0);
        for (int i = 2; i < 12; i++) {
            x.part(LOSS, 1, 91);
            x.bond(0, i);
        }
        b.due("answers()", x.answers(), 1);
        b.due("ten times 9 times -1", x.of(0, 3), PRIME - 90);
        PowerBonds y = new PowerBonds();
        y.part(JOIN, 0, 11);
        y.part(JOIN, 1, 11);
        for (int i = 0; i < 12; i++) {
            y.bond(0, 1);
        }
        b.due("two JOINS of unlike SORTS: all PUSHES alike and together 0", y.answers(), 1);
        b.due("PUSH of the last", y.of(11, 2), 0);
        b.due("PACE of the last", y.of(11, 3), 0);
        y.part(JOIN, 0, 11);
        b.due("a JOIN alone", y.answers(), NO);
        PowerBonds z = Bounds.parts(JOIN, 2);
        for (int i = 0; i < 12; i++) {
            z.bond(0, 1);
        }
        b.due("two JOINS of one SORT", z.answers(), MANY);
        b.due("the last of twelve BONDS", z.of(11, 2), MANY);
        PowerBonds none = new PowerBonds();
        none.part(JOIN, 0, 11);
        none.part(JOIN, 0, 11);
        none.part(GIVE, 0, 11);
        none.part(GIVE, 0, 11);
        none.bond(2, 0);
        none.bond(3, 1);
        for (int i = 2; i < 12; i++) {
            none.bond(0, 1);
        }
        b.due("the same PUSH at both", none.answers(), MANY);
        none.set(3, 3, 1);
        b.due("unlike PUSHES at both", none.answers(), NO);
    }

    /** What a larger machine left behind is none of a smaller one's laws. */
    private static void smaller(Bounds b) {
        b.promise(10, "of the machine as it is, whatever it was ahead");
        for (int hold = 0; hold < 2; hold++) {
            PowerBonds x = new PowerBonds();
            Bounds.tieGives(x, hold);
            x.keep();
            for (int i = 2; i < 12; i += 2) {
                x.part(GIVE, 0, 11);
                x.part(GIVE, 1, 11);
                x.bond(i, i + 1);
                x.set(i, 3, i);
                x.set(i + 1, 3, i + 1);
                b.due("of " + (i + 2) + " PARTS", x.answers(), hold == 0 ? MANY : NO);
            }
            x.back();
            b.due("of two again", x.answers(), hold == 0 ? MANY : NO);
        }
        PowerBonds y = Bounds.pair(GIVE, 0, GIVE, 1);
        y.keep();
        y.part(GIVE, 0, 11);
        y.part(LOSS, 0, 21);
        y.bond(2, 3);
        y.set(2, 3, 8);
        b.due("PUSH of the second BOND", y.of(1, 3), 4);
        y.back();
        b.due("PUSH of the only one", y.of(0, 2), 0);
        b.due("PACE of the only one", y.of(0, 3), 0);
        b.due("BONDS that are gone", y.of(1, 2), BAD);
    }
}
