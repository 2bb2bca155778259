/** Boundary cases of promises 1 to 7. */
final class PartsBounds {
    private static final int MIN = Bounds.MIN, MAX = Bounds.MAX, BAD = Bounds.BAD, FULL = Bounds.FULL, PRIME = Bounds.PRIME;
    private static final int STORE = Bounds.STORE, LOSS = Bounds.LOSS, GIVE = Bounds.GIVE, TURN = Bounds.TURN, JOIN = Bounds.JOIN;

    private PartsBounds() {
    }

    static void ask(Bounds b) {
        newObject(b);
        newObjectHasNothing(b);
        calls(b);
        partValues(b);
        partShares(b);
        partsFull(b);
        told(b);
        toldEnds(b);
        toldWorths(b);
        as(b);
        setWhat(b);
        setShare(b);
        setHold(b);
        bond(b);
        bondsFull(b);
        breaks(b);
        breaksTexts(b);
    }

    private static void newObject(Bounds b) {
        PowerBonds x = new PowerBonds();
        b.promise(1, "no PARTS, and nothing else: the STEP is 0");
        for (int what = 0; what <= 7; what++) {
            b.due("count(" + what + ")", x.count(what), 0);
        }
        b.promise(1, "no PARTS: no call finds one");
        b.due("told(0, 0)", x.told(0, 0), BAD);
        b.due("as(0, 0)", x.as(0, 0), BAD);
        b.due("set(0, 3, 0)", x.set(0, 3, 0), BAD);
        b.due("bond(0, 1)", x.bond(0, 1), BAD);
        b.due("moves(0, 0, 0)", x.moves(0, 0, 0), BAD);
        b.due("signs(0)", x.signs(0), BAD);
        b.due("apart(0, 1)", x.apart(0, 1), BAD);
        b.due("way(0, 0)", x.way(0, 0), BAD);
        b.due("lay(0, 1, 0)", x.lay(0, 1, 0), BAD);
        b.due("dual()", x.dual(), 0);
        b.due("rings()", x.rings(), 0);
        b.promise(1, "no BONDS: no call finds one");
        b.due("breaks(0)", x.breaks(0), BAD);
        b.due("of(0, 0)", x.of(0, 0), BAD);
        b.due("read(0)", x.read(0), BAD);
        b.due("whole()", x.whole(), 0);
        b.due("answers()", x.answers(), Bounds.NO);
        b.due("strokes(3)", x.strokes(3), Bounds.NO);
        b.due("can(0)", x.can(0), Bounds.NO);
        b.due("run(1)", x.run(1), Bounds.NO);
    }

    private static void newObjectHasNothing(Bounds b) {
        PowerBonds x = new PowerBonds();
        b.promise(1, "SHEETS are MISSING at first");
        b.each("mark", sheet -> x.mark(sheet, 0, 1), Bounds.NOTHING, 0, 1, 2, 3);
        b.each("pour", x::pour, Bounds.NOTHING, 0, 1, 2, 3);
        b.promise(1, "SLOTS hold nothing at first");
        b.each("ask", slot -> x.ask(slot, 0), Bounds.NOTHING, 0, 1, 2, 3, 4);
        b.each("lay", slot -> x.lay(slot, 0, 0), 0, 0, 1, 2, 3, 4);
        b.promise(1, "there is no IMAGE");
        b.due("back()", x.back(), Bounds.NO);
        b.due("check(1)", x.check(1), Bounds.NO);
        b.promise(1, "there are no TEXTS, and none counts");
        b.due("textTold(0, 0)", x.textTold(0, 0), BAD);
        b.each("why(0, of)", of -> x.why(0, of), Bounds.NONE, 0, 11);
        b.each("why(1, of)", of -> x.why(1, of), Bounds.NONE, 0, 11);
        b.promise(1, "THE TAPE has no bytes");
        b.due("trim(0)", x.trim(0), 0);
        b.due("trim(1)", x.trim(1), BAD);
        b.due("text()", x.text(), -100);
        b.promise(1, "a new object, whatever another one has");
        PowerBonds other = Bounds.pair(STORE, 0, GIVE, 1);
        other.tell(1);
        other.keep();
        b.due("parts of the one", x.count(0), 0);
        b.due("numbers that wait of the one", x.count(5), 0);
        b.due("back() of the one", x.back(), Bounds.NO);
        b.due("parts of a third", new PowerBonds().count(0), 0);
    }

    /** The calls that change most, up to the 512th, which is still promised. */
    private static void calls(Bounds b) {
        b.promise(1, "an object is used for at most 512 calls");
        PowerBonds x = Bounds.pair(STORE, 0, GIVE, 1);
        x.set(1, 3, 1);
        for (int call = 5; call < 512; call++) {
            x.run(1);
        }
        b.due("call 512: run(1)", x.run(1), 508);
        PowerBonds y = new PowerBonds();
        for (int call = 1; call < 512; call++) {
            y.text();
        }
        b.due("call 512: part(5, 1, 99)", y.part(JOIN, 1, 99), 0);
    }

    private static void partValues(Bounds b) {
        b.promise(2, "KINDS 0 to 5");
        b.within("part(kind, 0, 11)", kind -> new PowerBonds().part(kind, 0, 11), 0, 5, BAD);
        b.promise(2, "a SORT 0 or 1");
        b.within("part(0, sort, 11)", sort -> new PowerBonds().part(0, sort, 11), 0, 1, BAD);
        b.promise(2, "BAD adds no PART");
        PowerBonds x = new PowerBonds();
        b.due("part(6, 0, 11)", x.part(6, 0, 11), BAD);
        b.due("part(0, 2, 11)", x.part(0, 2, 11), BAD);
        b.due("part(0, 0, 10)", x.part(0, 0, 10), BAD);
        b.due("count(0)", x.count(0), 0);
        b.due("the first one's number", x.part(0, 0, 11), 0);
    }

    /** All from far below the smallest to far above the largest. */
    private static void partShares(Bounds b) {
        b.promise(2, "share: 10 times a, and b; a 1 .. 9, b 1 .. 9");
        PowerBonds x = new PowerBonds();
        x.keep();
        for (int share = -200; share <= 1200; share++) {
            if (share % 100 == 0) {
                x = new PowerBonds();
                x.keep();
            }
            boolean good = share > 0 && share < 100 && share / 10 >= 1 && share % 10 >= 1;
            b.due("part(1, 0, " + share + ")", x.part(STORE, 0, share), good ? 0 : BAD);
            x.back();
        }
        b.each("part(1, 0, share)", share -> new PowerBonds().part(STORE, 0, share), BAD, MIN, MIN + 11, MAX, MAX - 8, 65536 + 11);
    }

    private static void partsFull(Bounds b) {
        b.promise(2, "12 at most, numbered from 0");
        PowerBonds x = new PowerBonds();
        for (int i = 0; i < 12; i++) {
            b.due("part " + i, x.part(i % 6, i / 6, 11 * (1 + i % 9)), i);
        }
        b.due("the thirteenth", x.part(0, 0, 11), FULL);
        b.due("how many", x.count(0), 12);
        b.due("the last one's share", x.told(11, 2), 33);
        b.promise(2, "BAD stands ahead of FULL");
        b.due("part(6, 0, 11)", x.part(6, 0, 11), BAD);
        b.due("part(0, 2, 11)", x.part(0, 2, 11), BAD);
        b.due("part(0, 0, 100)", x.part(0, 0, 100), BAD);
        b.promise(2, "a HOLD, 0 at first");
        PowerBonds y = new PowerBonds();
        y.keep();
        y.part(STORE, 1, 99);
        y.set(0, 3, 77);
        y.back();
        b.due("one more where one was ahead of back()", y.part(LOSS, 0, 11), 0);
        b.due("its HOLD", y.told(0, 3), 0);
        b.due("its SHARE", y.told(0, 2), 11);
    }

    private static void told(Bounds b) {
        b.promise(3, "a PART that is there");
        PowerBonds x = Bounds.parts(JOIN, 3);
        b.within("told(part, 0)", part -> x.told(part, 0), 0, 2, BAD);
        b.due("told(11, 0) of three", x.told(11, 0), BAD);
        PowerBonds full = Bounds.parts(JOIN, 12);
        b.within("told(part, 0) of twelve", part -> full.told(part, 0), 0, 11, BAD);
        b.promise(3, "what 0 to 6");
        b.within("told(0, what)", what -> x.told(0, what), 0, 6, BAD);
        b.promise(3, "3 HOLD, a WORTH: 0 to 1000002");
        b.due("at first", x.told(0, 3), 0);
        x.set(0, 3, PRIME - 1);
        b.due("the largest", x.told(0, 3), PRIME - 1);
        x.set(0, 3, PRIME);
        b.due("one more wraps around", x.told(0, 3), 0);
    }

    private static void toldEnds(Bounds b) {
        b.promise(3, "4 ENDS: how many BONDS, whichever way they go; 5: JOIN wants 2 to 12");
        PowerBonds x = Bounds.parts(JOIN, 2);
        for (int ends = 0; ends <= 12; ends++) {
            b.due("ENDS with " + ends, x.told(0, 4), ends);
            b.due("as many as it wants with " + ends, x.told(0, 5), ends >= 2 ? 1 : 0);
            x.bond(ends % 2, 1 - ends % 2);
        }
        b.promise(3, "5: PART, STORE, LOSS, GIVE want 1 just, TURN 2 just");
        for (int kind = 0; kind <= TURN; kind++) {
            int wants = kind == TURN ? 2 : 1;
            PowerBonds y = new PowerBonds();
            y.part(kind, 1, 11);
            y.part(JOIN, 0, 11);
            for (int ends = 0; ends <= 12; ends++) {
                b.due("kind " + kind + " with " + ends, y.told(0, 5), ends == wants ? 1 : 0);
                y.bond(0, 1);
            }
        }
    }

    private static void toldWorths(Bounds b) {
        b.promise(3, "6 the WORTH of SHARE: times b it is a");
        PowerBonds x = Bounds.parts(LOSS, 1);
        for (int over = 1; over <= 9; over++) {
            for (int under = 1; under <= 9; under++) {
                x.set(0, 2, 10 * over + under);
                long worth = x.told(0, 6);
                b.due(over + " by " + under + ", times " + under, worth * under % PRIME, over);
                b.due(over + " by " + under + " is a WORTH", worth >= 0 && worth < PRIME ? 1 : 0, 1);
            }
        }
    }

    private static void as(Bounds b) {
        PowerBonds x = Bounds.parts(GIVE, 2);
        b.promise(4, "BAD: part");
        b.within("as(part, 0)", part -> x.as(part, 0), 0, 1, BAD);
        b.promise(4, "BAD: kind, 0 to 5");
        b.within("as(0, kind)", kind -> x.as(0, kind), 0, 5, BAD);
        b.promise(4, "BAD stands ahead of KIND");
        b.due("as(2, 1)", x.as(2, STORE), BAD);
        b.due("as(-1, 6)", x.as(-1, 6), BAD);
        b.promise(4, "HOLD, from 0 to 1000002");
        b.due("as(0, 3)", x.as(0, GIVE), 0);
        x.set(0, 3, -1);
        b.due("as(0, 2), with the largest", x.as(0, LOSS), PRIME - 1);
        b.promise(4, "KIND: not of that KIND, nor of one under it");
        String[] of = {"0", "01", "02", "023", "04", "045"};
        for (int kind = 0; kind < 6; kind++) {
            PowerBonds y = Bounds.parts(kind, 1);
            for (int wanted = 0; wanted < 6; wanted++) {
                b.due("kind " + kind + " as " + wanted, y.as(0, wanted), of[kind].indexOf('0' + wanted) >= 0 ? 0 : Bounds.KIND);
            }
        }
    }

    private static void setWhat(Bounds b) {
        PowerBonds x = Bounds.parts(GIVE, 2);
        b.promise(5, "SHARE (what 2), HOLD (3), nothing else");
        b.each("set(0, what, 11)", what -> x.set(0, what, 11), BAD, MIN, -1, 0, 1, 4, 5, 6, MAX);
        b.due("set(0, 2, 12)", x.set(0, 2, 12), 11);
        b.due("set(0, 3, 12)", x.set(0, 3, 12), 0);
        b.promise(5, "BAD: a PART that is not there");
        b.within("set(part, 3, 5)", part -> x.set(part, 3, 5), 0, 1, BAD);
        b.within("set(part, 2, 11)", part -> x.set(part, 2, 11), 0, 1, BAD);
    }

    private static void setShare(Bounds b) {
        b.promise(5, "SHARE becomes v: a 1 .. 9, b 1 .. 9");
        PowerBonds x = Bounds.parts(LOSS, 1);
        int was = 11;
        int calls = 1;
        for (int v = -30; v <= 130; v++) {
            boolean good = v > 0 && v < 100 && v / 10 >= 1 && v % 10 >= 1;
            b.due("set(0, 2, " + v + ")", x.set(0, 2, v), good ? was : BAD);
            was = good ? v : was;
            b.due("SHARE then", x.told(0, 2), was);
            calls += 2;
        }
        b.due("calls are few enough", calls < 512 ? 1 : 0, 1);
        b.each("set(0, 2, v)", v -> x.set(0, 2, v), BAD, MIN, MAX, 1011, 911, 199);
        b.due("SHARE stays", x.told(0, 2), 99);
    }

    private static void setHold(Bounds b) {
        b.promise(5, "HOLD: any number, as its WORTH: what it was");
        PowerBonds x = Bounds.parts(STORE, 1);
        int[][] worths = {{0, 0}, {PRIME - 1, PRIME - 1}, {PRIME, 0}, {PRIME + 1, 1}, {2 * PRIME - 1, PRIME - 1}, {2 * PRIME, 0}, {-1, PRIME - 1},
            {1 - PRIME, 1}, {-PRIME, 0}, {-PRIME - 1, PRIME - 1}, {MAX, 477206}, {MIN, 522796}};
        int was = 0;
        for (int[] worth : worths) {
            b.due("set(0, 3, " + worth[0] + ")", x.set(0, 3, worth[0]), was);
            was = worth[1];
            b.due("HOLD then", x.told(0, 3), was);
        }
    }

    private static void bond(Bounds b) {
        b.promise(6, "BAD: PARTS that are not there");
        b.due("bond(0, 1) of none", new PowerBonds().bond(0, 1), BAD);
        b.due("bond(0, 1) of one", Bounds.parts(JOIN, 1).bond(0, 1), BAD);
        b.within("bond(from, 1)", from -> Bounds.parts(JOIN, 3).bond(from == 1 ? 0 : from, 1), 0, 2, BAD);
        b.within("bond(1, to)", to -> Bounds.parts(JOIN, 3).bond(1, to == 1 ? 0 : to), 0, 2, BAD);
        b.within("bond(0, to) of twelve", to -> Bounds.parts(JOIN, 12).bond(0, to == 0 ? 1 : to), 0, 11, BAD);
        b.promise(6, "BAD: also if they are one");
        PowerBonds x = Bounds.parts(JOIN, 12);
        b.each("bond(part, part)", part -> x.bond(part, part), BAD, 0, 1, 11, 12, -1, MIN, MAX);
        b.due("BONDS", x.count(1), 0);
        b.promise(6, "from one PART to another one, as often as there is room, either way");
        b.due("bond(0, 11)", x.bond(0, 11), 0);
        b.due("bond(0, 11) again", x.bond(0, 11), 1);
        b.due("bond(11, 0)", x.bond(11, 0), 2);
        b.due("from of the third", x.of(2, 0), 11);
        b.due("to of the third", x.of(2, 1), 0);
    }

    private static void bondsFull(Bounds b) {
        b.promise(6, "BONDS, 12 at most, numbered from 0");
        PowerBonds x = Bounds.parts(JOIN, 2);
        for (int i = 0; i < 12; i++) {
            b.due("bond " + i, x.bond(0, 1), i);
        }
        b.due("the thirteenth", x.bond(1, 0), FULL);
        b.due("how many", x.count(1), 12);
        b.due("the last one's from", x.of(11, 0), 0);
        b.promise(6, "BAD stands ahead of FULL");
        b.due("bond(0, 0)", x.bond(0, 0), BAD);
        b.due("bond(0, 2)", x.bond(0, 2), BAD);
        b.due("bond(-1, 0)", x.bond(-1, 0), BAD);
        b.promise(6, "one breaks, and there is room for one more");
        b.due("breaks(0)", x.breaks(0), 11);
        b.due("bond(1, 0)", x.bond(1, 0), 11);
        b.due("the next", x.bond(1, 0), FULL);
    }

    private static void breaks(Bounds b) {
        b.promise(7, "BAD: a BOND that is not there");
        PowerBonds x = Bounds.parts(JOIN, 5);
        b.each("breaks(bond) of none", x::breaks, BAD, -1, 0, 1, 11, 12, MIN, MAX);
        for (int i = 0; i < 4; i++) {
            x.bond(i, i + 1);
        }
        b.each("breaks(bond) of four", x::breaks, BAD, -1, 4, 11, 12, MIN, MAX);
        b.due("BONDS stay", x.count(1), 4);
        b.promise(7, "those with greater numbers have one less: how many there are");
        b.due("breaks the last", x.breaks(3), 3);
        b.due("the others stay", x.of(2, 0), 2);
        b.due("breaks the first", x.breaks(0), 2);
        b.due("the second is the first", x.of(0, 0), 1);
        b.due("the third is the second", x.of(1, 0), 2);
        b.due("there is no third", x.of(2, 0), BAD);
        b.due("ENDS of the first PART", x.told(0, 4), 0);
        b.due("breaks one of two", x.breaks(0), 1);
        b.due("breaks the only one", x.breaks(0), 0);
        b.due("nothing is left to break", x.breaks(0), BAD);
        b.promise(7, "of twelve");
        PowerBonds full = Bounds.parts(JOIN, 12);
        for (int i = 0; i < 12; i++) {
            full.bond(i, (i + 1) % 12);
        }
        b.due("breaks(12)", full.breaks(12), BAD);
        b.due("breaks(11)", full.breaks(11), 11);
        b.due("breaks(5)", full.breaks(5), 10);
        for (int i = 0; i < 10; i++) {
            b.due("from of " + i, full.of(i, 0), i < 5 ? i : i + 1);
            b.due("to of " + i, full.of(i, 1), i < 5 ? i + 1 : i + 2);
        }
    }

    private static void breaksTexts(Bounds b) {
        b.promise(7, "TEXTS stay with numbers");
        PowerBonds x = Bounds.pair(GIVE, 0, LOSS, 0);
        x.part(GIVE, 0, 11);
        x.part(LOSS, 0, 11);
        x.bond(2, 3);
        x.set(0, 3, 5);
        x.set(2, 3, 9);
        Tape.text(x, "read 0 p");
        Tape.text(x, "read 1 p+100");
        b.due("read(0)", x.read(0), 5);
        b.due("read(1)", x.read(1), 109);
        b.due("breaks(0)", x.breaks(0), 1);
        b.due("the TEXT of BOND 0 stays", x.why(1, 0), 0);
        b.due("the TEXT of BOND 1 stays, without a BOND", x.why(1, 1), 1);
        b.due("read(1)", x.read(1), BAD);
        x.bond(0, 1);
        b.due("BOND 0 is what BOND 1 was", x.read(0), 9);
        b.due("BOND 1 is new", x.read(1), 105);
    }
}
