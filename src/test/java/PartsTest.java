/** Promises 1 to 7 and 9: a new object, parts, bonds, whole machines. */
public final class PartsTest {
    private static final int MIN = Integer.MIN_VALUE, MAX = Integer.MAX_VALUE;
    private static final Due DUE = new Due();

    public static void main(String[] args) {
        newObject();
        part();
        told();
        as();
        set();
        bond();
        breaks();
        whole();
        DUE.end();
    }

    private static void newObject() {
        PowerBonds x = new PowerBonds();
        for (int i = 0; i <= 7; i++) {
            DUE.due("new: count(" + i + ")", x.count(i), 0);
        }
        DUE.due("new: told(0, 0)", x.told(0, 0), PowerBonds.BAD);
        DUE.due("new: of(0, 0)", x.of(0, 0), PowerBonds.BAD);
        DUE.due("new: whole()", x.whole(), 0);
        DUE.due("new: answers()", x.answers(), PowerBonds.NO);
        DUE.due("new: can(0)", x.can(0), PowerBonds.NO);
        DUE.due("new: can(1)", x.can(1), PowerBonds.BAD);
        DUE.due("new: back()", x.back(), PowerBonds.NO);
        DUE.due("new: dual()", x.dual(), 0);
        DUE.due("new: rings()", x.rings(), 0);
        for (int i = 0; i < 4; i++) {
            DUE.due("new: mark(" + i + ", 0, 0)", x.mark(i, 0, 0), PowerBonds.NOTHING);
        }
        for (int i = 0; i < 5; i++) {
            DUE.due("new: item(" + i + ", 0)", x.item(i, 0), PowerBonds.NOTHING);
        }
        for (int i = 0; i < 12; i++) {
            DUE.due("new: why(0, " + i + ")", x.why(0, i), PowerBonds.NONE);
            DUE.due("new: why(1, " + i + ")", x.why(1, i), PowerBonds.NONE);
        }
    }

    private static void part() {
        PowerBonds x = new PowerBonds();
        int[][] bad = {{-1, 0, 11}, {6, 0, 11}, {MIN, 0, 11}, {MAX, 0, 11}, {0, -1, 11}, {0, 2, 11}, {0, 0, 0}, {0, 0, 1}, {0, 0, 9},
            {0, 0, 10}, {0, 0, 20}, {0, 0, 90}, {0, 0, 100}, {0, 0, 101}, {0, 0, 111}, {0, 0, -11}, {0, 0, MIN}, {0, 0, MAX}};
        for (int[] b : bad) {
            DUE.due("part(" + b[0] + ", " + b[1] + ", " + b[2] + ")", x.part(b[0], b[1], b[2]), PowerBonds.BAD);
        }
        DUE.due("parts refused", x.count(0), 0);
        int[] shares = {11, 19, 91, 99, 12, 21};
        for (int i = 0; i < 12; i++) {
            DUE.due("part " + i, x.part(i % 6, i / 6, shares[i % 6]), i);
            DUE.due("its kind", x.told(i, 0), i % 6);
            DUE.due("its sort", x.told(i, 1), i / 6);
            DUE.due("its share", x.told(i, 2), shares[i % 6]);
            DUE.due("its hold", x.told(i, 3), 0);
        }
        DUE.due("the thirteenth", x.part(0, 0, 11), PowerBonds.FULL);
        DUE.due("the thirteenth, bad", x.part(6, 0, 11), PowerBonds.BAD);
        DUE.due("parts", x.count(0), 12);
    }

    private static void told() {
        PowerBonds x = new PowerBonds();
        x.part(5, 0, 75);
        x.part(1, 1, 12);
        x.part(4, 0, 91);
        DUE.due("told(0, 4)", x.told(0, 4), 0);
        x.bond(0, 1);
        x.bond(2, 0);
        x.bond(0, 2);
        DUE.due("ends of both ways", x.told(0, 4), 3);
        DUE.due("ends", x.told(1, 4), 1);
        DUE.due("ends of two alike", x.told(2, 4), 2);
        DUE.due("7 by 5", x.told(0, 6), 200002);
        DUE.due("1 by 2", x.told(1, 6), 500002);
        DUE.due("9 by 1", x.told(2, 6), 9);
        x.set(1, 3, -2);
        DUE.due("hold", x.told(1, 3), 1000001);
        DUE.due("told(0, -1)", x.told(0, -1), PowerBonds.BAD);
        DUE.due("told(0, 7)", x.told(0, 7), PowerBonds.BAD);
        DUE.due("told(-1, 0)", x.told(-1, 0), PowerBonds.BAD);
        DUE.due("told(3, 0)", x.told(3, 0), PowerBonds.BAD);
        DUE.due("told(MIN, MAX)", x.told(MIN, MAX), PowerBonds.BAD);
    }

    /** Which kinds each kind is of. */
    private static void as() {
        String[] of = {"0", "01", "02", "023", "04", "045"};
        PowerBonds x = new PowerBonds();
        for (int kind = 0; kind < 6; kind++) {
            x.part(kind, 0, 11);
            x.set(kind, 3, 100 + kind);
            for (int as = 0; as < 6; as++) {
                boolean is = of[kind].indexOf('0' + as) >= 0;
                DUE.due("as(" + kind + ", " + as + ")", x.as(kind, as), is ? 100 + kind : PowerBonds.KIND);
            }
        }
        DUE.due("as(6, 0)", x.as(6, 0), PowerBonds.BAD);
        DUE.due("as(-1, 0)", x.as(-1, 0), PowerBonds.BAD);
        DUE.due("as(0, 6)", x.as(0, 6), PowerBonds.BAD);
        DUE.due("as(0, -1)", x.as(0, -1), PowerBonds.BAD);
    }

    private static void set() {
        PowerBonds x = new PowerBonds();
        x.part(5, 1, 34);
        DUE.due("set share", x.set(0, 2, 99), 34);
        DUE.due("set share again", x.set(0, 2, 11), 99);
        for (int v : new int[] {10, 100, 0, -11, 9, 110, MIN, MAX}) {
            DUE.due("set(0, 2, " + v + ")", x.set(0, 2, v), PowerBonds.BAD);
        }
        DUE.due("share stays", x.told(0, 2), 11);
        DUE.due("set hold", x.set(0, 3, 1000003), 0);
        DUE.due("a rest of 0", x.set(0, 3, 2000007), 0);
        DUE.due("a rest of 1", x.set(0, 3, -1000004), 1);
        DUE.due("below 0", x.set(0, 3, MIN), 1000002);
        DUE.due("the least", x.set(0, 3, MAX), 1000003 - 2147483648L % 1000003);
        DUE.due("the most", x.told(0, 3), 2147483647L % 1000003);
        for (int what : new int[] {-1, 0, 1, 4, 5, 6, MIN, MAX}) {
            DUE.due("set(0, " + what + ", 11)", x.set(0, what, 11), PowerBonds.BAD);
        }
        DUE.due("set(1, 3, 1)", x.set(1, 3, 1), PowerBonds.BAD);
        DUE.due("set(-1, 3, 1)", x.set(-1, 3, 1), PowerBonds.BAD);
    }

    private static void bond() {
        PowerBonds x = new PowerBonds();
        DUE.due("bond without parts", x.bond(0, 1), PowerBonds.BAD);
        x.part(5, 0, 11);
        x.part(5, 0, 11);
        DUE.due("one part", x.bond(1, 1), PowerBonds.BAD);
        DUE.due("bond(-1, 0)", x.bond(-1, 0), PowerBonds.BAD);
        DUE.due("bond(0, 2)", x.bond(0, 2), PowerBonds.BAD);
        DUE.due("bond(2, 0)", x.bond(2, 0), PowerBonds.BAD);
        for (int i = 0; i < 12; i++) {
            DUE.due("bond " + i, x.bond(i % 2, 1 - i % 2), i);
            DUE.due("its from", x.of(i, 0), i % 2);
            DUE.due("its to", x.of(i, 1), 1 - i % 2);
        }
        DUE.due("the thirteenth", x.bond(0, 1), PowerBonds.FULL);
        DUE.due("the thirteenth, bad", x.bond(0, 0), PowerBonds.BAD);
        DUE.due("bonds", x.count(1), 12);
        DUE.due("a join of twelve", x.told(0, 5), 1);
    }

    private static void breaks() {
        PowerBonds x = new PowerBonds();
        for (int i = 0; i < 4; i++) {
            x.part(5, 0, 11);
        }
        DUE.due("breaks(0) without bonds", x.breaks(0), PowerBonds.BAD);
        x.bond(0, 1);
        x.bond(1, 2);
        x.bond(2, 3);
        x.bond(3, 0);
        Tape.text(x, "read 2 p");
        DUE.due("breaks(4)", x.breaks(4), PowerBonds.BAD);
        DUE.due("breaks(-1)", x.breaks(-1), PowerBonds.BAD);
        DUE.due("breaks(1)", x.breaks(1), 3);
        int[][] left = {{0, 1}, {2, 3}, {3, 0}};
        for (int i = 0; i < 3; i++) {
            DUE.due("from of " + i, x.of(i, 0), left[i][0]);
            DUE.due("to of " + i, x.of(i, 1), left[i][1]);
        }
        DUE.due("the text stays with its number", x.why(1, 2), 0);
        DUE.due("not with its bond", x.why(1, 1), PowerBonds.NONE);
        DUE.due("breaks the last", x.breaks(2), 2);
        DUE.due("breaks(2)", x.breaks(2), PowerBonds.BAD);
        DUE.due("the text stays without its bond", x.why(1, 2), 0);
        DUE.due("breaks(0)", x.breaks(0), 1);
        DUE.due("breaks(0) again", x.breaks(0), 0);
        DUE.due("a new one", x.bond(1, 3), 0);
    }

    private static void whole() {
        int[][] wants = {{1, 1}, {1, 1}, {1, 1}, {1, 1}, {2, 2}, {2, 12}};
        for (int kind = 0; kind < 6; kind++) {
            for (int ends = 0; ends <= 4; ends++) {
                PowerBonds x = new PowerBonds();
                x.part(kind, 0, 11);
                for (int i = 1; i <= ends; i++) {
                    x.part(0, 0, 11);
                    x.bond(i % 2 == 0 ? 0 : i, i % 2 == 0 ? i : 0);
                }
                int fits = ends >= wants[kind][0] && ends <= wants[kind][1] ? 1 : 0;
                String told = "kind " + kind + " with " + ends;
                DUE.due(told + ": told(0, 5)", x.told(0, 5), fits);
                DUE.due(told + ": whole()", x.whole(), fits);
            }
        }
        PowerBonds x = new PowerBonds();
        x.part(0, 0, 11);
        x.part(0, 0, 11);
        x.bond(0, 1);
        DUE.due("two ends", x.whole(), 1);
        x.part(2, 0, 11);
        DUE.due("one part more", x.whole(), 0);
    }
}
