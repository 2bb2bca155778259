/** A machine of twelve parts and twelve bonds, as many as there can be, through the calls that go over all of them. */
public final class FullTest {
    private static final int STORE = 1, LOSS = 2, GIVE = 3, JOIN = 5;
    private static final Due DUE = new Due();

    public static void main(String[] args) {
        answer();
        steps();
        others();
        strokes();
        texts();
        DUE.end();
    }

    /**
     * JOIN 0 (part 0, pushes alike) with parts 1 .. 5, JOIN 1 (part 6, paces alike) with parts 7 .. 11, two bonds between
     * both, one each way: bonds 0 and 11. The others go from the joins, in the order of the parts.
     */
    private static PowerBonds build() {
        PowerBonds x = new PowerBonds();
        for (int join = 0; join < 2; join++) {
            int ends = 1 - join;
            x.part(JOIN, join, 11);
            x.part(GIVE, ends, 11);
            x.part(LOSS, ends, 21);
            x.part(STORE, ends, 31);
            x.part(LOSS, ends, 31);
            x.part(STORE, ends, 11);
        }
        x.bond(0, 6);
        for (int i = 0; i < 12; i++) {
            if (i % 6 != 0) {
                x.bond(i - i % 6, i);
            }
        }
        x.bond(6, 0);
        x.set(1, 3, 10);
        x.set(7, 3, 20);
        x.set(3, 3, 5);
        x.set(11, 3, 5);
        return x;
    }

    /** Paces at JOIN 0: 10, 2 P, 15, 3 P, 0 together 0, so P is -5; at JOIN 1 pushes 20, 2 F, 0, 3 F, 5: F is -5. */
    private static void answer() {
        PowerBonds x = build();
        int less = 1000003 - 5;
        DUE.due("whole()", x.whole(), 1);
        DUE.due("answers()", x.answers(), 1);
        long[] push = {less, less, less, less, less, less, 20, 2 * less % 1000003, 0, 3 * less % 1000003, 5, less};
        long[] pace = {less, 10, 2 * less % 1000003, 15, 3 * less % 1000003, 0, less, less, less, less, less, less};
        for (int i = 0; i < 12; i++) {
            DUE.due("push of " + i, x.of(i, 2), push[i]);
            DUE.due("pace of " + i, x.of(i, 3), pace[i]);
        }
        DUE.due("rings()", x.rings(), 1);
        DUE.due("way(1, 11)", x.way(1, 11), 3);
    }

    private static void steps() {
        PowerBonds x = build();
        Tape.text(x, "give 1 t");
        Tape.text(x, "give 7 h-t");
        Tape.text(x, "read 11 p+f");
        x.keep();
        DUE.due("run(1)", x.run(1), 1);
        DUE.due("STORES 1 sum their push, -3 with a give of 0", x.told(3, 3), 2);
        DUE.due("STORES 0 sum their pace", x.told(11, 3), 0);
        DUE.due("the first give", x.told(1, 3), 1);
        DUE.due("the second", x.told(7, 3), 19);
        DUE.due("back()", x.back(), 0);
        DUE.due("the last store", x.told(11, 3), 5);
        DUE.due("STORES", x.count(2), 4);
        DUE.due("together", x.count(3), 10);
        DUE.due("a reading of the last bond", x.read(11), 2 * (1000003 - 3) - 2);
    }

    /**
     * JOIN 0 settles all but one of seven, JOIN 1 just one of seven; GIVES of pace do not settle, of push do. All STORES sum:
     * those at JOIN 0 don't settle, those at JOIN 1 do. With one bond between both settled by JOIN 1, all its LOSSES settle,
     * and none at JOIN 0 do.
     */
    private static void strokes() {
        PowerBonds x = build();
        DUE.due("STORES that SUM", x.strokes(1), 4);
        DUE.due("TIED", x.strokes(2), 0);
        DUE.due("the least: bond 0 by JOIN 0, bond 11 by JOIN 1, parts 7 .. 11 by themselves", x.strokes(0), 0b011111000000);
        DUE.due("it can be", x.can(0b011111000000), 1);
        DUE.due("these two by the other joins can, too", x.can(0b111111000001), 1);
        DUE.due("both by JOIN 0 can not", x.can(0b111111000000), 0);
        DUE.due("who settles bond 11", x.of(11, 5), 6);
        DUE.due("who settles bond 10", x.of(10, 5), 11);
    }

    private static void texts() {
        PowerBonds x = build();
        for (int i = 0; i < 14; i++) {
            Tape.text(x, "give 1 " + (100 + i));
        }
        DUE.due("keep()", x.keep(), 0);
        x.run(1);
        DUE.due("back()", x.back(), 0);
        DUE.due("texts", x.count(4), 14);
        DUE.due("the last", x.why(0, 1), 13);
        x.run(1);
        DUE.due("what it gives", x.told(1, 3), 113);
    }

    private static void others() {
        PowerBonds x = build();
        DUE.due("moves(1, 11, 0)", x.moves(1, 11, 0), x.worth(1, -1, 5));
        DUE.due("moves(7, 11, 1)", x.moves(7, 11, 1), x.worth(1, -1, 5));
        DUE.due("signs of the first LOSS: pushes at JOIN 0 and its paces by them", x.signs(2), 0b100000111111);
        DUE.due("signs of the last STORE: paces at JOIN 1", x.signs(11), 0b111111000001);
        DUE.due("dual()", x.dual(), 12);
        DUE.due("its push is what the pace was", x.of(9, 2), 1000003 - 5);
        DUE.due("a thirteenth part", x.part(0, 0, 11), PowerBonds.FULL);
        DUE.due("a thirteenth bond", x.bond(0, 1), PowerBonds.FULL);
        x.lay(0, 1, 11);
        DUE.due("the last part in a slot", x.ask(0, STORE), 1);
    }
}
