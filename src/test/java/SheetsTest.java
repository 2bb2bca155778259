/** Promises 26 to 34: worths, sheets, slots. */
public final class SheetsTest {
    private static final int MIN = Integer.MIN_VALUE, MAX = Integer.MAX_VALUE;
    private static final int STORE = 1, LOSS = 2, GIVE = 3, JOIN = 5;
    private static final Due DUE = new Due();

    public static void main(String[] args) {
        worth();
        sheet();
        mark();
        pour();
        copy();
        copyRefused();
        lay();
        ask();
        item();
        rest();
        DUE.end();
    }

    private static void worth() {
        PowerBonds x = new PowerBonds();
        int[][] worths = {{0, 0}, {1, 1}, {1000002, 1000002}, {1000003, 0}, {1000004, 1}, {-1, 1000002}, {-1000003, 0},
            {-1000004, 1000002}, {MAX, (int) (2147483647L % 1000003)}, {MIN, (int) (1000003 - 2147483648L % 1000003)}};
        for (int[] w : worths) {
            DUE.due("worth(0, " + w[0] + ", 0)", x.worth(0, w[0], 0), w[1]);
        }
        DUE.due("1 by 2", x.worth(1, 1, 2), 500002);
        DUE.due("6 by 3", x.worth(1, 6, 3), 2);
        DUE.due("-6 by 3", x.worth(1, -6, 3), 1000001);
        DUE.due("6 by -3", x.worth(1, 6, -3), 1000001);
        DUE.due("0 by 5", x.worth(1, 0, 5), 0);
        DUE.due("5 by 1000004", x.worth(1, 5, 1000004), 5);
        for (int b = 1; b < 40; b++) {
            long w = x.worth(1, 7, b);
            DUE.due("7 by " + b + " times that", w * b % 1000003, 7);
        }
        for (int b : new int[] {0, 1000003, -1000003, 2000006}) {
            DUE.due("1 by " + b, x.worth(1, 1, b), PowerBonds.NO);
        }
        for (int what : new int[] {-1, 2, MIN, MAX}) {
            DUE.due("worth(" + what + ", 1, 0)", x.worth(what, 1, 0), PowerBonds.BAD);
        }
    }

    private static void sheet() {
        PowerBonds x = new PowerBonds();
        int[][] calls = {{-1, 0, 1, PowerBonds.BAD}, {4, 0, 1, PowerBonds.BAD}, {0, -2, 1, PowerBonds.BAD}, {0, 3, 1, PowerBonds.BAD},
            {0, 0, 25, PowerBonds.BAD}, {0, 0, MAX, PowerBonds.BAD}, {0, 0, -1, PowerBonds.SIZE}, {0, 2, MIN, PowerBonds.SIZE},
            {4, 0, -1, PowerBonds.BAD}, {0, 3, -1, PowerBonds.BAD}, {4, -1, 0, PowerBonds.BAD}, {0, 1, 24, 24}, {1, 0, 0, 0}, {2, 2, 7, 7},
            {3, -1, -5, 0}, {3, -1, 99, 0}, {3, -1, MIN, 0}};
        for (int[] c : calls) {
            DUE.due("sheet(" + c[0] + ", " + c[1] + ", " + c[2] + ")", x.sheet(c[0], c[1], c[2]), c[3]);
        }
        DUE.due("the last place", x.mark(0, 23, 5), 0);
        DUE.due("none of 0 places", x.mark(1, 0, 5), PowerBonds.INDEX);
        DUE.due("refused", x.sheet(0, 0, -1), PowerBonds.SIZE);
        DUE.due("it stays", x.mark(0, 23, 6), 5);
        x.sheet(0, 1, 24);
        DUE.due("all 0 again", x.mark(0, 23, 6), 0);
        DUE.due("missing", x.sheet(0, -1, 1), 0);
        DUE.due("it is", x.mark(0, 23, 6), PowerBonds.NOTHING);
    }

    private static void mark() {
        PowerBonds x = new PowerBonds();
        for (int sort = 0; sort < 3; sort++) {
            x.sheet(sort, sort, 3);
        }
        for (int v : new int[] {1, -1, 32767, 32768, 65535, 65536, -32768, -32769, 70000, MIN, MAX}) {
            x.mark(0, 2, v);
            DUE.due("short of " + v, x.mark(0, 2, 0), (short) v);
            x.mark(1, 2, v);
            DUE.due("int of " + v, x.mark(1, 2, 0), v);
            x.mark(2, 2, v);
            DUE.due("long of " + v, x.mark(2, 2, 0), v);
        }
        for (int place : new int[] {-1, 3, 24, MIN, MAX}) {
            DUE.due("mark(0, " + place + ", 1)", x.mark(0, place, 1), PowerBonds.INDEX);
            DUE.due("mark(3, " + place + ", 1)", x.mark(3, place, 1), PowerBonds.NOTHING);
            DUE.due("mark(4, " + place + ", 1)", x.mark(4, place, 1), PowerBonds.BAD);
        }
        DUE.due("mark(-1, 0, 1)", x.mark(-1, 0, 1), PowerBonds.BAD);
    }

    private static void pour() {
        PowerBonds x = new PowerBonds();
        DUE.due("pour(-1)", x.pour(-1), PowerBonds.BAD);
        DUE.due("pour(4)", x.pour(4), PowerBonds.BAD);
        DUE.due("pour(0)", x.pour(0), PowerBonds.NOTHING);
        x.part(LOSS, 0, 11);
        x.part(STORE, 0, 11);
        x.part(GIVE, 0, 11);
        x.part(STORE, 1, 11);
        x.part(STORE, 0, 11);
        for (int i = 0; i < 5; i++) {
            x.set(i, 3, 50 + i);
        }
        x.sheet(0, 1, 2);
        x.mark(0, 0, -3);
        x.mark(0, 1, 1000005);
        DUE.due("two places", x.pour(0), 2);
        int[] holds = {50, 1000000, 52, 2, 54};
        for (int i = 0; i < 5; i++) {
            DUE.due("hold of " + i, x.told(i, 3), holds[i]);
        }
        x.sheet(1, 2, 24);
        x.mark(1, 2, MAX);
        DUE.due("more places than stores", x.pour(1), 3);
        DUE.due("the third", x.told(4, 3), 2147483647L % 1000003);
        DUE.due("the first", x.told(1, 3), 0);
        x.sheet(2, 0, 0);
        DUE.due("no place", x.pour(2), 0);
        PowerBonds full = new PowerBonds();
        full.sheet(3, 0, 24);
        for (int i = 0; i < 12; i++) {
            full.part(STORE, 0, 11);
            full.mark(3, i, -1 - i);
        }
        DUE.due("twelve stores", full.pour(3), 12);
        for (int i = 0; i < 12; i++) {
            DUE.due("store " + i, full.told(i, 3), 1000002 - i);
        }
        DUE.due("together", full.count(3), 1000003 - 78);
    }

    private static PowerBonds row(int sort) {
        PowerBonds x = new PowerBonds();
        x.sheet(0, sort, 6);
        for (int i = 0; i < 6; i++) {
            x.mark(0, i, 10 + i);
        }
        x.sheet(1, sort, 4);
        return x;
    }

    private static void tells(String told, PowerBonds x, int sheet, int... want) {
        x.lay(0, 2, sheet);
        for (int i = 0; i < want.length; i++) {
            DUE.due(told + ": place " + i, x.item(0, i), want[i]);
        }
        DUE.due(told + ": no more", x.item(0, want.length), PowerBonds.INDEX);
    }

    private static void copy() {
        for (int sort = 0; sort < 3; sort++) {
            PowerBonds x = row(sort);
            DUE.due("copy to another", x.copy(0, 2, 1, 1, 3), 3);
            tells("another", x, 1, 0, 12, 13, 14);
            tells("the one", x, 0, 10, 11, 12, 13, 14, 15);
            DUE.due("copy up", x.copy(0, 0, 0, 1, 5), 5);
            tells("up", x, 0, 10, 10, 11, 12, 13, 14);
            DUE.due("copy down", x.copy(0, 2, 0, 0, 4), 4);
            tells("down", x, 0, 11, 12, 13, 14, 13, 14);
            DUE.due("all", x.copy(0, 0, 0, 0, 6), 6);
            DUE.due("all of another", x.copy(1, 0, 0, 2, 4), 4);
            tells("all", x, 0, 11, 12, 0, 12, 13, 14);
            DUE.due("none", x.copy(0, 0, 1, 0, 0), 0);
            DUE.due("none behind the last ones", x.copy(0, 6, 1, 4, 0), 0);
            DUE.due("none further", x.copy(0, 7, 1, 4, 0), PowerBonds.INDEX);
            DUE.due("none further there", x.copy(0, 6, 1, 5, 0), PowerBonds.INDEX);
            DUE.due("none ahead", x.copy(0, -1, 1, 0, 0), PowerBonds.INDEX);
        }
    }

    private static void copyRefused() {
        PowerBonds x = row(1);
        x.sheet(2, 2, 6);
        int[][] calls = {{0, 0, 1, 0, -1, PowerBonds.INDEX}, {0, 0, 1, 0, MIN, PowerBonds.INDEX}, {0, 0, 1, 0, 5, PowerBonds.INDEX},
            {0, 3, 1, 0, 4, PowerBonds.INDEX}, {0, 0, 1, 1, 4, PowerBonds.INDEX}, {0, -1, 1, 0, 1, PowerBonds.INDEX},
            {0, 0, 1, -1, 1, PowerBonds.INDEX}, {0, 6, 1, 0, 1, PowerBonds.INDEX}, {0, MAX, 1, 0, MAX, PowerBonds.INDEX},
            {0, 1, 1, 1, MAX, PowerBonds.INDEX}, {0, MAX, 1, MAX, 1, PowerBonds.INDEX}, {0, MIN, 1, MIN, MIN, PowerBonds.INDEX},
            {0, 0, 2, 0, 1, PowerBonds.KIND}, {0, 0, 2, 0, 0, PowerBonds.KIND}, {0, 99, 2, 0, -1, PowerBonds.KIND},
            {0, 0, 3, 0, 1, PowerBonds.NOTHING}, {3, 99, 0, 0, -1, PowerBonds.NOTHING}, {3, 0, 3, 0, 0, PowerBonds.NOTHING},
            {4, 0, 0, 0, 1, PowerBonds.BAD}, {0, 0, 4, 0, 1, PowerBonds.BAD}, {-1, 0, 3, 0, 1, PowerBonds.BAD}, {3, 0, -1, 0, 1, PowerBonds.BAD}};
        for (int[] c : calls) {
            DUE.due("copy(" + c[0] + ", " + c[1] + ", " + c[2] + ", " + c[3] + ", " + c[4] + ")",
                x.copy(c[0], c[1], c[2], c[3], c[4]), c[5]);
        }
        tells("nothing is changed", x, 1, 0, 0, 0, 0);
    }

    private static void lay() {
        PowerBonds x = new PowerBonds();
        x.part(STORE, 0, 12);
        x.sheet(1, 0, 2);
        DUE.due("lay a part", x.lay(4, 1, 0), 0);
        DUE.due("lay a sheet", x.lay(4, 2, 1), 1);
        DUE.due("lay a number", x.lay(4, 3, MIN), 2);
        DUE.due("lay nothing", x.lay(4, 0, MAX), 3);
        DUE.due("lay nothing again", x.lay(4, 0, -1), 0);
        x.lay(4, 3, 7);
        int[][] calls = {{-1, 0, 0, PowerBonds.BAD}, {5, 0, 0, PowerBonds.BAD}, {4, -1, 0, PowerBonds.BAD}, {4, 4, 0, PowerBonds.BAD},
            {4, 1, 1, PowerBonds.BAD}, {4, 1, -1, PowerBonds.BAD}, {4, 2, -1, PowerBonds.BAD}, {4, 2, 4, PowerBonds.BAD},
            {4, 2, 0, PowerBonds.NOTHING}, {5, 2, 0, PowerBonds.BAD}};
        for (int[] c : calls) {
            DUE.due("lay(" + c[0] + ", " + c[1] + ", " + c[2] + ")", x.lay(c[0], c[1], c[2]), c[3]);
        }
        DUE.due("it holds what it held", x.rest(4, 10), 7);
    }

    private static void ask() {
        PowerBonds x = new PowerBonds();
        x.part(GIVE, 0, 12);
        x.part(JOIN, 0, 31);
        x.lay(0, 1, 0);
        x.lay(1, 1, 1);
        x.lay(2, 3, 5);
        x.sheet(0, 1, 1);
        x.lay(3, 2, 0);
        int[] give = {500002, PowerBonds.KIND, 500002, 500002, PowerBonds.KIND, PowerBonds.KIND};
        int[] join = {3, PowerBonds.KIND, PowerBonds.KIND, PowerBonds.KIND, 3, 3};
        for (int kind = 0; kind < 6; kind++) {
            DUE.due("ask(0, " + kind + ")", x.ask(0, kind), give[kind]);
            DUE.due("ask(1, " + kind + ")", x.ask(1, kind), join[kind]);
            DUE.due("a number", x.ask(2, kind), PowerBonds.KIND);
            DUE.due("a sheet", x.ask(3, kind), PowerBonds.KIND);
            DUE.due("nothing", x.ask(4, kind), PowerBonds.NOTHING);
        }
        x.set(0, 2, 99);
        DUE.due("as it was then", x.ask(0, 3), 500002);
        x.dual();
        DUE.due("for good", x.ask(1, 5), 3);
        for (int bad : new int[] {-1, 6, MIN, MAX}) {
            DUE.due("ask(0, " + bad + ")", x.ask(0, bad), PowerBonds.BAD);
            DUE.due("ask(4, " + bad + ")", x.ask(4, bad), PowerBonds.BAD);
            DUE.due("ask(" + bad + ", 0)", x.ask(bad, 0), PowerBonds.BAD);
        }
        DUE.due("ask(5, 0)", x.ask(5, 0), PowerBonds.BAD);
    }

    private static void item() {
        PowerBonds x = row(0);
        x.part(STORE, 0, 11);
        x.mark(0, 3, -40000);
        x.lay(1, 2, 0);
        DUE.due("a place", x.item(1, 0), 10);
        DUE.due("of shorts", x.item(1, 3), 25536);
        x.mark(0, 0, 99);
        DUE.due("a row of its own", x.item(1, 0), 10);
        x.sheet(0, -1, 0);
        DUE.due("without its sheet", x.item(1, 5), 15);
        DUE.due("item(1, 6)", x.item(1, 6), PowerBonds.INDEX);
        DUE.due("item(1, -1)", x.item(1, -1), PowerBonds.INDEX);
        DUE.due("item(1, MAX)", x.item(1, MAX), PowerBonds.INDEX);
        x.lay(2, 1, 0);
        x.lay(3, 3, 1);
        DUE.due("a part", x.item(2, -1), PowerBonds.KIND);
        DUE.due("a number", x.item(3, -1), PowerBonds.KIND);
        DUE.due("nothing", x.item(4, -1), PowerBonds.NOTHING);
        DUE.due("item(5, 0)", x.item(5, 0), PowerBonds.BAD);
        DUE.due("item(-1, 0)", x.item(-1, 0), PowerBonds.BAD);
        x.sheet(2, 2, 0);
        x.lay(1, 2, 2);
        DUE.due("a row of none", x.item(1, 0), PowerBonds.INDEX);
    }

    private static void rest() {
        PowerBonds x = new PowerBonds();
        x.part(STORE, 0, 11);
        x.sheet(0, 0, 1);
        int[][] rests = {{17, 5, 2}, {-17, 5, -2}, {17, -5, 2}, {-17, -5, -2}, {MIN, -1, 0}, {MIN, MIN, 0}, {5, MIN, 5}, {MIN, MAX, -1}};
        for (int[] r : rests) {
            x.lay(0, 3, r[0]);
            DUE.due(r[0] + " by " + r[1], x.rest(0, r[1]), r[2]);
        }
        DUE.due("by 0", x.rest(0, 0), PowerBonds.NO);
        x.lay(1, 1, 0);
        x.lay(2, 2, 0);
        DUE.due("a part", x.rest(1, 0), PowerBonds.KIND);
        DUE.due("a sheet", x.rest(2, 0), PowerBonds.KIND);
        DUE.due("nothing", x.rest(3, 0), PowerBonds.NOTHING);
        DUE.due("rest(5, 0)", x.rest(5, 0), PowerBonds.BAD);
        DUE.due("rest(-1, 1)", x.rest(-1, 1), PowerBonds.BAD);
    }
}
