/** Promises 20 to 25: what a give moves, signs, what is told apart, duals, rings, ways. */
public final class MovesTest {
    private static final int PART = 0, STORE = 1, LOSS = 2, GIVE = 3, TURN = 4, JOIN = 5;
    private static final Due DUE = new Due();

    public static void main(String[] args) {
        moves();
        signs();
        apart();
        dual();
        rings();
        way();
        DUE.end();
    }

    /** A JOIN of sort 1 (part 0) with a GIVE of paces (1), a LOSS 2 (2), a STORE 3 (3), a GIVE of pushes (4); bonds 0 .. 3 in this order. */
    private static PowerBonds machine() {
        PowerBonds x = new PowerBonds();
        x.part(JOIN, 1, 11);
        x.part(GIVE, 1, 11);
        x.part(LOSS, 0, 21);
        x.part(STORE, 0, 31);
        x.part(GIVE, 0, 11);
        x.bond(1, 0);
        x.bond(0, 2);
        x.bond(0, 3);
        x.bond(0, 4);
        x.set(1, 3, 5);
        x.set(3, 3, 7);
        x.set(4, 3, 100);
        return x;
    }

    private static void moves() {
        PowerBonds x = machine();
        DUE.due("push of bond 0", x.of(0, 2), 10 + 21 + 100);
        DUE.due("moves(1, 0, 0)", x.moves(1, 0, 0), 2);
        DUE.due("moves(1, 0, 1)", x.moves(1, 0, 1), 1);
        DUE.due("moves(1, 2, 0): stores hold 0", x.moves(1, 2, 0), 0);
        DUE.due("moves(1, 3, 0): other gives hold 0", x.moves(1, 3, 0), 0);
        DUE.due("moves(4, 0, 0)", x.moves(4, 0, 0), 1);
        DUE.due("moves(4, 0, 1)", x.moves(4, 0, 1), 0);
        DUE.due("holds stay", x.told(3, 3) + x.told(4, 3), 107);
        int[][] bad = {{0, 0, 0}, {2, 0, 0}, {3, 0, 0}, {5, 0, 0}, {-1, 0, 0}, {1, -1, 0}, {1, 4, 0}, {1, 0, -1}, {1, 0, 2},
            {Integer.MIN_VALUE, 0, 0}, {1, Integer.MAX_VALUE, 0}};
        for (int[] b : bad) {
            DUE.due("moves(" + b[0] + ", " + b[1] + ", " + b[2] + ")", x.moves(b[0], b[1], b[2]), PowerBonds.BAD);
        }
        firstStore();
        x.part(GIVE, 0, 11);
        DUE.due("not whole", x.moves(1, 0, 0), PowerBonds.NO);
        x.part(GIVE, 0, 11);
        x.bond(5, 6);
        x.set(5, 3, 1);
        DUE.due("none as it is", x.answers(), PowerBonds.NO);
        DUE.due("but many of a give elsewhere", x.moves(1, 0, 0), PowerBonds.MANY);
        DUE.due("none of one of these", x.moves(5, 0, 0), PowerBonds.NO);
    }

    /** Part 0 holds 0 then, as all others do. */
    private static void firstStore() {
        PowerBonds x = new PowerBonds();
        x.part(STORE, 0, 51);
        x.part(GIVE, 1, 11);
        x.bond(0, 1);
        x.set(0, 3, 9);
        x.set(1, 3, 9);
        DUE.due("push of the store", x.moves(1, 0, 0), 0);
        DUE.due("pace of the give", x.moves(1, 0, 1), 1);
    }

    private static void signs() {
        PowerBonds x = machine();
        DUE.due("signs of the LOSS", x.signs(2), 3);
        DUE.due("signs of the STORE", x.signs(3), 5);
        DUE.due("signs of the JOIN", x.signs(0), 0);
        DUE.due("signs of a GIVE", x.signs(1), 0);
        x.set(3, 3, 0);
        DUE.due("of a STORE that holds 0", x.signs(3), 0);
        DUE.due("shares stay", x.told(3, 2), 31);
        x.set(2, 2, 99);
        DUE.due("a of 10", x.signs(2), 3);
        DUE.due("signs(-1)", x.signs(-1), PowerBonds.BAD);
        DUE.due("signs(5)", x.signs(5), PowerBonds.BAD);
        x.part(LOSS, 0, 21);
        DUE.due("not whole", x.signs(0), PowerBonds.NO);
        DUE.due("not whole, bad", x.signs(6), PowerBonds.BAD);
        x.part(LOSS, 0, 11);
        x.bond(5, 6);
        DUE.due("one answer", x.answers(), 1);
        DUE.due("none other", x.signs(5), 0);
        DUE.due("many with that share", x.signs(6), PowerBonds.MANY);
        x.set(5, 2, 11);
        DUE.due("many as it is", x.signs(6), PowerBonds.MANY);
        withThatShare();
    }

    /** Two LOSSES in a row with a GIVE: with 2 less 2 there is no answer. */
    private static void withThatShare() {
        PowerBonds x = new PowerBonds();
        x.part(JOIN, 1, 11);
        x.part(LOSS, 0, 21);
        x.part(LOSS, 0, 11);
        x.part(GIVE, 0, 11);
        x.bond(0, 1);
        x.bond(2, 0);
        x.bond(3, 0);
        DUE.due("one answer", x.answers(), 1);
        DUE.due("many with 2", x.signs(2), PowerBonds.MANY);
        x.set(3, 3, 1);
        DUE.due("none with 2", x.signs(2), PowerBonds.NO);
        DUE.due("all with 3", x.signs(1), 7);
        DUE.due("apart(1, 2)", x.apart(1, 2), PowerBonds.NO);
        DUE.due("apart(2, 1)", x.apart(2, 1), PowerBonds.NO);
        x.set(3, 3, 0);
        DUE.due("apart(1, 2), many", x.apart(1, 2), PowerBonds.MANY);
        DUE.due("apart(0, 3)", x.apart(0, 3), 0);
    }

    private static void apart() {
        PowerBonds x = machine();
        DUE.due("LOSS and STORE", x.apart(2, 3), 1);
        DUE.due("STORE and LOSS", x.apart(3, 2), 1);
        DUE.due("GIVE and JOIN", x.apart(1, 0), 0);
        DUE.due("GIVE and LOSS", x.apart(1, 2), 1);
        DUE.due("LOSS and GIVE", x.apart(2, 1), 1);
        DUE.due("one", x.apart(2, 2), PowerBonds.BAD);
        DUE.due("apart(0, 5)", x.apart(0, 5), PowerBonds.BAD);
        DUE.due("apart(5, 0)", x.apart(5, 0), PowerBonds.BAD);
        DUE.due("apart(-1, 0)", x.apart(-1, 0), PowerBonds.BAD);
        x.part(PART, 0, 11);
        DUE.due("not whole", x.apart(2, 3), PowerBonds.NO);
        DUE.due("not whole, bad", x.apart(3, 3), PowerBonds.BAD);
        x.part(PART, 0, 11);
        x.bond(5, 6);
        DUE.due("many", x.apart(2, 3), PowerBonds.MANY);
    }

    private static void dual() {
        PowerBonds x = machine();
        x.part(TURN, 1, 27);
        x.part(TURN, 0, 91);
        DUE.due("dual()", x.dual(), 5);
        int[] sorts = {0, 0, 1, 1, 1, 1, 0};
        int[] shares = {11, 11, 21, 31, 11, 72, 19};
        for (int i = 0; i < 7; i++) {
            DUE.due("sort of " + i, x.told(i, 1), sorts[i]);
            DUE.due("share of " + i, x.told(i, 2), shares[i]);
        }
        DUE.due("holds stay", x.told(3, 3), 7);
        DUE.due("bonds stay", x.count(1), 4);
        x.dual();
        DUE.due("twice", x.told(5, 2), 27);
        x = machine();
        int[] carried = {x.of(0, 2), x.of(0, 3), x.of(1, 2), x.of(1, 3)};
        DUE.due("dual()", x.dual(), 5);
        DUE.due("pace is what push was", x.of(0, 3), carried[0]);
        DUE.due("push is what pace was", x.of(0, 2), carried[1]);
        DUE.due("pace is what push was", x.of(1, 3), carried[2]);
        DUE.due("push is what pace was", x.of(1, 2), carried[3]);
    }

    private static void rings() {
        PowerBonds x = new PowerBonds();
        for (int i = 0; i < 5; i++) {
            x.part(JOIN, 0, 11);
            DUE.due("parts alone", x.rings(), 0);
        }
        x.bond(0, 1);
        x.bond(2, 1);
        DUE.due("a row", x.rings(), 0);
        x.bond(0, 2);
        DUE.due("a ring", x.rings(), 1);
        x.bond(0, 2);
        DUE.due("two", x.rings(), 2);
        x.bond(4, 3);
        DUE.due("another piece", x.rings(), 2);
        x.bond(3, 4);
        DUE.due("with a ring", x.rings(), 3);
        x.bond(4, 0);
        DUE.due("both joined", x.rings(), 3);
        x.breaks(0);
        DUE.due("one ring less", x.rings(), 2);
    }

    private static void way() {
        PowerBonds x = new PowerBonds();
        for (int i = 0; i < 12; i++) {
            x.part(JOIN, 0, 11);
        }
        for (int i = 0; i < 11; i++) {
            x.bond(i % 2 == 0 ? i : i + 1, i % 2 == 0 ? i + 1 : i);
        }
        for (int i = 0; i < 12; i++) {
            DUE.due("way(0, " + i + ")", x.way(0, i), i);
            DUE.due("way(" + i + ", 3)", x.way(i, 3), Math.abs(i - 3));
        }
        x.bond(11, 0);
        DUE.due("the other way round", x.way(0, 8), 4);
        x.breaks(3);
        DUE.due("the long way round", x.way(3, 4), 11);
        x.breaks(10);
        DUE.due("none", x.way(3, 4), PowerBonds.NONE);
        DUE.due("of one", x.way(7, 7), 0);
        DUE.due("way(0, 12)", x.way(0, 12), PowerBonds.BAD);
        DUE.due("way(-1, 0)", x.way(-1, 0), PowerBonds.BAD);
        DUE.due("way(12, 12)", x.way(12, 12), PowerBonds.BAD);
    }
}
