/** Promises 8 and 10: the laws of each kind and sort, one answer, many or none. */
public final class AnswersTest {
    private static final int PART = 0, STORE = 1, LOSS = 2, GIVE = 3, TURN = 4, JOIN = 5;
    private static final Due DUE = new Due();

    public static void main(String[] args) {
        ends();
        turns();
        joins();
        refusals();
        many();
        DUE.end();
    }

    private static PowerBonds pair(int kind, int sort, int share, int hold, int giveSort, int giveHold) {
        PowerBonds x = new PowerBonds();
        x.part(kind, sort, share);
        x.part(GIVE, giveSort, 11);
        x.set(0, 3, hold);
        x.set(1, 3, giveHold);
        x.bond(0, 1);
        return x;
    }

    private static void carries(String told, PowerBonds x, int bond, long push, long pace) {
        DUE.due(told + ": push of " + bond, x.of(bond, 2), push);
        DUE.due(told + ": pace of " + bond, x.of(bond, 3), pace);
        DUE.due(told + ": power of " + bond, x.of(bond, 4), push * pace % 1000003);
    }

    private static void ends() {
        carries("PART 0", pair(PART, 0, 75, 9, 1, 7), 0, 0, 7);
        carries("PART 1", pair(PART, 1, 75, 9, 0, 7), 0, 7, 0);
        carries("STORE 0", pair(STORE, 0, 32, 4, 1, 7), 0, 6, 7);
        carries("STORE 1", pair(STORE, 1, 32, 4, 0, 7), 0, 7, 6);
        carries("LOSS 0 by a pace", pair(LOSS, 0, 32, 5, 1, 8), 0, 12, 8);
        carries("LOSS 0 by a push", pair(LOSS, 0, 32, 5, 0, 12), 0, 12, 8);
        carries("LOSS 1 by a push", pair(LOSS, 1, 32, 5, 0, 8), 0, 8, 12);
        carries("LOSS 1 by a pace", pair(LOSS, 1, 32, 5, 1, 12), 0, 8, 12);
        carries("GIVES of both sorts", pair(GIVE, 0, 32, 1000002, 1, 1000001), 0, 1000002, 1000001);
        PowerBonds x = pair(LOSS, 0, 12, 0, 0, 1);
        DUE.due("1 by 1 by 2", x.of(0, 3), 2);
        x.set(0, 2, 21);
        DUE.due("1 by 2", x.of(0, 3), 500002);
        DUE.due("power of these", x.of(0, 4), 500002);
    }

    /** Bonds 0 (of the GIVE) and 1 (of the LOSS), or the other way round. */
    private static PowerBonds turn(int sort, boolean giveFirst) {
        PowerBonds x = new PowerBonds();
        x.part(TURN, sort, 21);
        x.part(GIVE, 0, 11);
        x.part(LOSS, 0, 31);
        x.set(1, 3, 12);
        x.bond(0, giveFirst ? 1 : 2);
        x.bond(giveFirst ? 2 : 1, 0);
        return x;
    }

    private static void turns() {
        PowerBonds x = turn(0, true);
        carries("TURN 0", x, 0, 12, 1);
        carries("TURN 0", x, 1, 6, 2);
        x = turn(0, false);
        carries("TURN 0, other numbers", x, 1, 12, 16);
        carries("TURN 0, other numbers", x, 0, 24, 8);
        x = turn(1, true);
        carries("TURN 1", x, 0, 12, 9);
        carries("TURN 1", x, 1, 18, 6);
        x = turn(1, false);
        carries("TURN 1, other numbers", x, 1, 12, 9);
        carries("TURN 1, other numbers", x, 0, 18, 6);
    }

    private static void joins() {
        PowerBonds x = new PowerBonds();
        x.part(JOIN, 0, 97);
        x.part(GIVE, 0, 11);
        x.part(LOSS, 0, 21);
        x.part(LOSS, 0, 31);
        x.set(1, 3, 12);
        x.bond(1, 0);
        x.bond(0, 2);
        x.bond(0, 3);
        carries("JOIN 0", x, 0, 12, 10);
        carries("JOIN 0", x, 1, 12, 6);
        carries("JOIN 0", x, 2, 12, 4);
        x.breaks(2);
        x.bond(3, 0);
        carries("JOIN 0 with two that come", x, 0, 12, 2);
        carries("JOIN 0 with two that come", x, 2, 12, 4);
        x.breaks(0);
        x.bond(0, 1);
        carries("JOIN 0, the give's last", x, 2, 12, 1000001);

        x = new PowerBonds();
        x.part(JOIN, 1, 97);
        x.part(GIVE, 1, 11);
        x.part(LOSS, 0, 21);
        x.part(LOSS, 0, 31);
        x.set(1, 3, 5);
        x.bond(1, 0);
        x.bond(0, 2);
        x.bond(0, 3);
        carries("JOIN 1", x, 0, 25, 5);
        carries("JOIN 1", x, 1, 10, 5);
        carries("JOIN 1", x, 2, 15, 5);
        x.breaks(2);
        x.bond(3, 0);
        carries("JOIN 1 with two that come", x, 0, 999998, 5);
    }

    private static void refusals() {
        PowerBonds x = new PowerBonds();
        x.part(GIVE, 0, 11);
        x.part(TURN, 0, 11);
        x.bond(0, 1);
        for (int what = 2; what <= 5; what++) {
            DUE.due("not whole: of(0, " + what + ")", x.of(0, what), PowerBonds.NO);
        }
        DUE.due("not whole: of(0, 0)", x.of(0, 0), 0);
        DUE.due("not whole: of(0, 1)", x.of(0, 1), 1);
        DUE.due("not whole: answers()", x.answers(), PowerBonds.NO);
        for (int what : new int[] {-1, 6, Integer.MIN_VALUE, Integer.MAX_VALUE}) {
            DUE.due("of(0, " + what + ")", x.of(0, what), PowerBonds.BAD);
        }
        for (int bond : new int[] {-1, 1, 12, Integer.MIN_VALUE, Integer.MAX_VALUE}) {
            DUE.due("of(" + bond + ", 0)", x.of(bond, 0), PowerBonds.BAD);
            DUE.due("of(" + bond + ", 2)", x.of(bond, 2), PowerBonds.BAD);
        }
    }

    private static void many() {
        PowerBonds x = pair(GIVE, 0, 11, 3, 0, 3);
        DUE.due("two gives alike", x.answers(), PowerBonds.MANY);
        DUE.due("their push", x.of(0, 2), PowerBonds.MANY);
        DUE.due("their power", x.of(0, 4), PowerBonds.MANY);
        x.set(0, 3, 4);
        DUE.due("two gives unlike", x.answers(), PowerBonds.NO);
        DUE.due("their pace", x.of(0, 3), PowerBonds.NO);
        x = pair(LOSS, 0, 21, 0, 0, 3);
        DUE.due("one answer", x.answers(), 1);
        x.part(PART, 1, 11);
        x.part(STORE, 1, 11);
        x.bond(2, 3);
        DUE.due("a piece with many", x.answers(), PowerBonds.MANY);
        DUE.due("makes all of them many", x.of(0, 2), PowerBonds.MANY);
        x.set(3, 3, 1);
        DUE.due("a piece with none", x.answers(), PowerBonds.NO);
        x.part(GIVE, 0, 11);
        x.part(GIVE, 0, 11);
        x.bond(4, 5);
        DUE.due("one with none, one with many", x.answers(), PowerBonds.NO);
        x = pair(LOSS, 0, 23, 0, 0, 0);
        x.breaks(0);
        x.part(LOSS, 1, 32);
        x.part(LOSS, 0, 11);
        x.bond(0, 2);
        x.bond(1, 3);
        DUE.due("two losses with one law", x.answers(), PowerBonds.MANY);
        x.set(2, 2, 23);
        DUE.due("two losses with two laws", x.answers(), 1);
    }
}
