/** Boundary cases of promises 8 (what 5), 11 and 12. */
final class StrokesBounds {
    private static final int MIN = Bounds.MIN, MAX = Bounds.MAX, BAD = Bounds.BAD, NO = Bounds.NO, CLASH = Bounds.CLASH;
    private static final int STORE = Bounds.STORE, LOSS = Bounds.LOSS, GIVE = Bounds.GIVE, TURN = Bounds.TURN, JOIN = Bounds.JOIN;

    private StrokesBounds() {
    }

    static void ask(Bounds b) {
        settles(b);
        strokesValues(b);
        clash(b);
        most(b);
        least(b);
        tied(b);
        changed(b);
        canValues(b);
        canOfTwelve(b);
        canGive(b);
        canTurn(b);
        canJoin(b);
    }

    private static void settles(Bounds b) {
        b.promise(8, "5: which PART SETTLES its PUSH in THE STROKES");
        b.due("GIVE 0 to LOSS", Bounds.pair(GIVE, 0, LOSS, 0).of(0, 5), 0);
        b.due("GIVE 1 to LOSS", Bounds.pair(GIVE, 1, LOSS, 0).of(0, 5), 1);
        PowerBonds pairs = new PowerBonds();
        for (int i = 0; i < 6; i++) {
            pairs.part(GIVE, i % 2, 11);
            pairs.part(LOSS, 0, 11);
            pairs.bond(2 * i, 2 * i + 1);
        }
        for (int i = 0; i < 6; i++) {
            b.due("the GIVE of SORT 0, the LOSS of one of SORT 1", pairs.of(i, 5), 2 * i + i % 2);
        }
        b.due("one more", pairs.of(6, 5), BAD);
        PowerBonds twelve = new PowerBonds();
        twelve.part(JOIN, 0, 11);
        twelve.part(JOIN, 1, 11);
        for (int i = 0; i < 12; i++) {
            twelve.bond(i == 11 ? 1 : 0, i == 11 ? 0 : 1);
        }
        b.due("the first of twelve goes from JOIN 0, which SETTLES all but one", twelve.of(0, 5), 0);
        b.due("the last goes from JOIN 1, which SETTLES just this one", twelve.of(11, 5), 1);
        b.promise(8, "of 5: NO: not WHOLE");
        PowerBonds x = Bounds.pair(GIVE, 0, GIVE, 0);
        x.part(LOSS, 0, 11);
        b.due("of(0, 5)", x.of(0, 5), NO);
        b.promise(8, "of 5: CLASH");
        b.due("two GIVES 0", Bounds.pair(GIVE, 0, GIVE, 0).of(0, 5), CLASH);
        b.due("two GIVES 1", Bounds.pair(GIVE, 1, GIVE, 1).of(0, 5), CLASH);
        b.due("BAD ahead of CLASH", Bounds.pair(GIVE, 0, GIVE, 0).of(1, 5), BAD);
        b.promise(8, "of 5, without an ANSWER, or with MANY");
        PowerBonds y = Bounds.pair(LOSS, 0, LOSS, 1);
        b.due("MANY", y.answers(), Bounds.MANY);
        b.due("of(0, 5)", y.of(0, 5), 0);
    }

    private static void strokesValues(Bounds b) {
        b.promise(11, "what 0 to 3");
        PowerBonds x = Bounds.pair(GIVE, 0, LOSS, 0);
        b.within("strokes(what)", x::strokes, 0, 3, BAD);
        b.promise(11, "NO: not WHOLE, of 3, too");
        PowerBonds none = new PowerBonds();
        b.each("strokes(what) of no PARTS", none::strokes, NO, 0, 1, 2, 3);
        x.part(LOSS, 0, 11);
        b.each("strokes(what) with a PART alone", x::strokes, NO, 0, 1, 2, 3);
        b.promise(11, "BAD stands ahead of NO");
        b.each("strokes(what)", x::strokes, BAD, -1, 4, MIN, MAX);
    }

    private static void clash(Bounds b) {
        b.promise(11, "CLASH (of 3: 0)");
        PowerBonds x = Bounds.pair(GIVE, 1, GIVE, 1);
        b.each("strokes(what)", x::strokes, CLASH, 0, 1, 2);
        b.due("strokes(3)", x.strokes(3), 0);
        b.each("strokes(what)", x::strokes, BAD, -1, 4);
        b.promise(11, "CLASH of one piece is one of the machine");
        PowerBonds y = Bounds.pair(GIVE, 0, LOSS, 0);
        Bounds.tieGives(y, 0);
        b.due("strokes(0)", y.strokes(0), CLASH);
        b.due("strokes(3)", y.strokes(3), 0);
    }

    /** Six pairs: nothing is asked of LOSSES, so all 64 can be. */
    private static void most(Bounds b) {
        b.promise(11, "3 how many LINE-UPS CAN be: from 1 to as many as there are");
        b.due("one", Bounds.pair(GIVE, 0, LOSS, 0).strokes(3), 1);
        PowerBonds x = new PowerBonds();
        for (int i = 0; i < 6; i++) {
            x.part(LOSS, 0, 11);
            x.part(LOSS, 0, 11);
            x.bond(2 * i, 2 * i + 1);
            b.due("of " + (i + 1) + " pairs", x.strokes(3), 2 << i);
        }
        PowerBonds half = Bounds.pair(LOSS, 0, LOSS, 0);
        half.part(GIVE, 0, 11);
        half.part(LOSS, 0, 11);
        half.bond(2, 3);
        b.due("the lower half", half.strokes(3), 2);
        half.dual();
        b.due("the upper half", half.strokes(3), 2);
        b.due("the least of the upper half", half.strokes(0), 2);
        b.due("the least of all", x.strokes(0), 0);
        b.due("STORES that SUM, of none", x.strokes(1), 0);
        b.due("TIED, of none", x.strokes(2), 0);
        b.promise(11, "1 how many STORES SUM: as many as twelve");
        PowerBonds y = new PowerBonds();
        for (int i = 0; i < 6; i++) {
            y.part(STORE, 1, 11);
            y.part(STORE, 0, 11);
            y.bond(2 * i, 2 * i + 1);
        }
        b.due("strokes(0)", y.strokes(0), 63);
        b.due("strokes(1)", y.strokes(1), 12);
        b.due("strokes(2)", y.strokes(2), 0);
    }

    private static void least(Bounds b) {
        b.promise(11, "most STORES SUM; of several the least as bits");
        PowerBonds x = Bounds.pair(STORE, 0, STORE, 0);
        b.due("two alike: the least bits", x.strokes(0), 0);
        b.due("one SUMS", x.strokes(1), 1);
        PowerBonds y = Bounds.pair(LOSS, 0, STORE, 0);
        b.due("more SUM with greater bits", y.strokes(0), 1);
        b.due("one SUMS", y.strokes(1), 1);
        PowerBonds z = Bounds.pair(LOSS, 0, STORE, 1);
        b.due("more SUM with lesser bits", z.strokes(0), 0);
        b.due("one SUMS", z.strokes(1), 1);
    }

    private static void tied(Bounds b) {
        b.promise(11, "2 TIED ones (bits by PARTS), PART 0 to PART 11");
        PowerBonds x = Bounds.pair(STORE, 0, GIVE, 0);
        b.due("PART 0", x.strokes(2), 1);
        b.due("none SUMS", x.strokes(1), 0);
        for (int i = 0; i < 4; i++) {
            x.part(LOSS, 0, 11);
            x.part(LOSS, 0, 11);
            x.bond(2 + 2 * i, 3 + 2 * i);
        }
        x.part(GIVE, 1, 11);
        x.part(STORE, 1, 11);
        x.bond(10, 11);
        b.due("PART 0 and PART 11", x.strokes(2), 1 + 2048);
        b.due("THE STROKES", x.strokes(0), 1 + 32);
        b.due("LINE-UPS", x.strokes(3), 16);
    }

    private static void changed(Bounds b) {
        b.promise(11, "of the machine as it is, whatever BONDS it had ahead");
        PowerBonds x = star(JOIN, 0, 3);
        b.due("three ENDS", x.strokes(3), 3);
        x.breaks(0);
        x.part(LOSS, 0, 11);
        x.bond(4, 1);
        b.due("two ENDS and a pair", x.strokes(3), 4);
        b.due("THE STROKES", x.strokes(0), 1);
        b.promise(12, "of the machine as it is, whatever BONDS it had ahead");
        b.due("can(1)", x.can(1), 1);
        b.due("can(3)", x.can(3), 0);
        b.due("can(6)", x.can(6), 1);
        PowerBonds y = new PowerBonds();
        y.part(JOIN, 0, 11);
        for (int i = 1; i <= 3; i++) {
            y.part(LOSS, 0, 11);
            y.bond(i, 0);
        }
        b.due("three that come", y.strokes(3), 3);
        y.breaks(0);
        y.part(LOSS, 0, 11);
        y.bond(1, 4);
        b.due("two that come and a pair", y.strokes(3), 4);
        b.due("can(0)", y.can(0), 0);
        b.due("can(2)", y.can(2), 1);
        b.due("can(5)", y.can(5), 1);
        b.due("can(7)", y.can(7), 0);
    }

    private static void canValues(Bounds b) {
        b.promise(12, "BAD: bits of BONDS that are not there");
        PowerBonds none = new PowerBonds();
        b.each("can(bits) of no BONDS", none::can, BAD, -1, 1, 2, 4095, MIN, MAX);
        PowerBonds x = Bounds.pair(LOSS, 0, LOSS, 0);
        b.within("can(bits) of one BOND", x::can, 0, 1, BAD);
        b.each("can(bits) of one BOND", x::can, BAD, 3, 4, 4096, MIN + 1);
        b.promise(12, "NO: not WHOLE");
        b.due("can(0) of no BONDS", none.can(0), NO);
        x.part(LOSS, 0, 11);
        b.each("can(bits) with a PART alone", x::can, NO, 0, 1);
        b.promise(12, "BAD stands ahead of NO");
        b.each("can(bits) with a PART alone", x::can, BAD, -1, 2);
    }

    private static void canOfTwelve(Bounds b) {
        b.promise(12, "bits of twelve BONDS");
        PowerBonds x = new PowerBonds();
        x.part(JOIN, 0, 11);
        x.part(JOIN, 1, 11);
        for (int i = 0; i < 12; i++) {
            x.bond(0, 1);
        }
        b.each("can(bits)", x::can, BAD, -1, 4096, 8191, MIN, MAX);
        for (int i = 0; i < 12; i++) {
            b.due("JOIN 1 SETTLES BOND " + i + " alone", x.can(1 << i), 1);
        }
        b.each("can(bits)", x::can, 0, 0, 3, 4095, 2048 + 1024);
    }

    private static void canGive(Bounds b) {
        b.promise(12, "a GIVE of SORT 0 SETTLES its own, of SORT 1 not");
        PowerBonds from = Bounds.pair(GIVE, 0, LOSS, 0);
        b.due("SORT 0, from it: can(0)", from.can(0), 1);
        b.due("SORT 0, from it: can(1)", from.can(1), 0);
        from.dual();
        b.due("SORT 1, from it: can(0)", from.can(0), 0);
        b.due("SORT 1, from it: can(1)", from.can(1), 1);
        PowerBonds to = Bounds.pair(LOSS, 0, GIVE, 0);
        b.due("SORT 0, to it: can(0)", to.can(0), 0);
        b.due("SORT 0, to it: can(1)", to.can(1), 1);
        to.dual();
        b.due("SORT 1, to it: can(0)", to.can(0), 1);
        b.due("SORT 1, to it: can(1)", to.can(1), 0);
    }

    /** BOND i goes from PART 0 to LOSS i + 1: bit i tells that the LOSS SETTLES. */
    private static PowerBonds star(int kind, int sort, int ends) {
        PowerBonds x = new PowerBonds();
        x.part(kind, sort, 11);
        for (int i = 1; i <= ends; i++) {
            x.part(LOSS, 0, 11);
            x.bond(0, i);
        }
        return x;
    }

    private static void canTurn(Bounds b) {
        b.promise(12, "a TURN of SORT 0 just one of its two, of SORT 1 both or none");
        PowerBonds plain = star(TURN, 0, 2);
        b.each("SORT 0: can(bits)", plain::can, 1, 1, 2);
        b.each("SORT 0: can(bits)", plain::can, 0, 0, 3);
        PowerBonds other = star(TURN, 1, 2);
        b.each("SORT 1: can(bits)", other::can, 0, 1, 2);
        b.each("SORT 1: can(bits)", other::can, 1, 0, 3);
    }

    private static void canJoin(Bounds b) {
        b.promise(12, "a JOIN of SORT 0 all of its own but one, of SORT 1 just one");
        for (int ends = 2; ends <= 11; ends++) {
            PowerBonds plain = star(JOIN, 0, ends);
            PowerBonds other = star(JOIN, 1, ends);
            int all = (1 << ends) - 1;
            b.due("SORT 0 with " + ends + ": all", plain.can(0), 0);
            b.due("SORT 0 with " + ends + ": all but the first", plain.can(1), 1);
            b.due("SORT 0 with " + ends + ": all but the last", plain.can(1 << ends - 1), 1);
            b.due("SORT 0 with " + ends + ": all but two", plain.can(3), 0);
            b.due("SORT 1 with " + ends + ": none", other.can(all), 0);
            b.due("SORT 1 with " + ends + ": the first", other.can(all - 1), 1);
            b.due("SORT 1 with " + ends + ": the last", other.can(all >> 1), 1);
            b.due("SORT 1 with " + ends + ": two", other.can(all - 3), 0);
        }
    }
}
