/** Promises 13 and 19, and what texts do to gives: steps that sum what stores hold, readings. */
public final class StepsTest {
    private static final int STORE = 1, LOSS = 2, GIVE = 3;
    private static final Due DUE = new Due();

    public static void main(String[] args) {
        sums();
        refusals();
        last();
        givesByTexts();
        reads();
        DUE.end();
    }

    private static PowerBonds pair(int kind, int sort, int share, int giveSort) {
        PowerBonds x = new PowerBonds();
        x.part(kind, sort, share);
        x.part(GIVE, giveSort, 11);
        x.bond(1, 0);
        return x;
    }

    private static void sums() {
        PowerBonds x = pair(STORE, 0, 31, 1);
        x.set(1, 3, 5);
        DUE.due("run(1)", x.run(1), 1);
        DUE.due("STORE 0 sums its pace", x.told(0, 3), 5);
        DUE.due("its push", x.of(0, 2), 15);
        DUE.due("run(60)", x.run(60), 61);
        DUE.due("sixty more", x.told(0, 3), 305);
        x.set(1, 3, -305);
        DUE.due("run(1) back", x.run(1), 62);
        DUE.due("a rest", x.told(0, 3), 0);
        x = pair(STORE, 1, 31, 0);
        x.set(1, 3, 5);
        x.run(2);
        DUE.due("STORE 1 sums its push", x.told(0, 3), 10);
        DUE.due("its pace", x.of(0, 3), 30);
        x = pair(STORE, 0, 21, 1);
        x.part(STORE, 0, 31);
        x.part(GIVE, 1, 11);
        x.bond(3, 2);
        x.set(1, 3, 7);
        x.set(3, 3, 1000002);
        x.run(3);
        DUE.due("of two stores the one", x.told(0, 3), 21);
        DUE.due("the other", x.told(2, 3), 1000000);
        DUE.due("gives stay", x.told(1, 3), 7);
    }

    /** All stores sum at once, by the answer as it was ahead of the step. */
    private static void atOnce() {
        PowerBonds x = new PowerBonds();
        x.part(STORE, 0, 11);
        x.part(STORE, 1, 11);
        x.bond(0, 1);
        x.set(0, 3, 2);
        x.set(1, 3, 3);
        x.run(1);
        DUE.due("STORE 0 by the pace of STORE 1", x.told(0, 3), 5);
        DUE.due("STORE 1 by the push of STORE 0", x.told(1, 3), 5);
    }

    private static void refusals() {
        atOnce();
        PowerBonds x = pair(STORE, 0, 11, 0);
        for (int n : new int[] {0, -1, 61, Integer.MIN_VALUE, Integer.MAX_VALUE}) {
            DUE.due("run(" + n + ")", x.run(n), PowerBonds.BAD);
        }
        DUE.due("many", x.run(3), PowerBonds.MANY);
        x.set(0, 3, 1);
        DUE.due("none", x.run(3), PowerBonds.NO);
        DUE.due("no step is done", x.count(7), 0);
        DUE.due("the store stays", x.told(0, 3), 1);
        x.part(LOSS, 0, 11);
        DUE.due("not whole", x.run(1), PowerBonds.NO);
        DUE.due("not whole, bad", x.run(0), PowerBonds.BAD);
    }

    private static void last() {
        PowerBonds x = pair(STORE, 0, 11, 1);
        x.set(1, 3, 1);
        for (int i = 0; i < 166; i++) {
            x.run(60);
        }
        DUE.due("9960 steps", x.count(7), 9960);
        DUE.due("one too many", x.run(40), PowerBonds.FULL);
        DUE.due("it stays", x.count(7), 9960);
        DUE.due("the last", x.run(39), 9999);
        DUE.due("one more", x.run(1), PowerBonds.FULL);
        DUE.due("none", x.run(0), PowerBonds.BAD);
        DUE.due("what is held", x.told(0, 3), 9999);
        x.keep();
        x.tell(10000);
        x.tell(10000);
        x.tell(10001);
        x.tell(10001);
        DUE.due("check goes on above", x.check(2), 0);
        Tape.text(x, "give 1 t");
        x.keep();
        int[] told = {9999 + 9999, 19998, 19998 + 10000, 29998};
        for (int v : told) {
            x.tell(v);
        }
        DUE.due("and so does t", x.check(2), 0);
        x.part(LOSS, 0, 11);
        DUE.due("FULL ahead of NO", x.run(1), PowerBonds.FULL);
    }

    private static void givesByTexts() {
        PowerBonds x = new PowerBonds();
        DUE.due("a text for no part", Tape.text(x, "give 1 t*10+7"), 0);
        x.part(LOSS, 0, 11);
        x.part(GIVE, 0, 11);
        x.bond(0, 1);
        DUE.due("a give that comes later", x.told(1, 3), 0);
        DUE.due("run(1)", x.run(1), 1);
        DUE.due("has it with the next step", x.told(1, 3), 17);
        Tape.text(x, "give 1 h*2+t");
        DUE.due("at once as a text comes", x.told(1, 3), 35);
        x.run(1);
        DUE.due("the last one told counts", x.told(1, 3), 72);
        Tape.text(x, "give 0 9");
        DUE.due("a LOSS is no GIVE", x.told(0, 3), 0);
        x.run(1);
        DUE.due("not with a step", x.told(0, 3), 0);
        Tape.text(x, "give 1 0-1");
        DUE.due("the worth of -1", x.told(1, 3), 1000002);
        Tape.text(x, "give 1 h");
        DUE.due("h is a worth", x.told(1, 3), 1000002);
        x.set(1, 3, 4);
        x.run(2);
        DUE.due("set and h", x.told(1, 3), 4);
        Tape.text(x, "read 1 99");
        x.run(1);
        DUE.due("a reading moves no give", x.told(1, 3), 4);
        Tape.text(x, "give 1 9999*9999*9999");
        DUE.due("the worth of an int that wrapped", x.told(1, 3), Math.floorMod(9999 * 9999 * 9999, 1000003));
        others();
    }

    private static void others() {
        PowerBonds x = new PowerBonds();
        x.part(GIVE, 0, 11);
        x.part(GIVE, 1, 11);
        x.bond(0, 1);
        Tape.text(x, "give 0 h+1");
        Tape.text(x, "give 1 h+10");
        DUE.due("a text moves its give alone", x.told(0, 3), 1);
        DUE.due("the other by its own", x.told(1, 3), 10);
        x.run(3);
        DUE.due("a step moves both", x.told(0, 3), 4);
        DUE.due("both", x.told(1, 3), 40);
        x.breaks(0);
        x.run(1);
        DUE.due("no step, no text", x.told(0, 3), 4);
    }

    private static void reads() {
        PowerBonds x = pair(LOSS, 0, 21, 0);
        x.set(1, 3, 8);
        DUE.due("no text", x.read(0), PowerBonds.NONE);
        Tape.text(x, "read 0 p*100+f*10+t");
        DUE.due("push, pace and step", x.read(0), 840);
        x.run(3);
        DUE.due("at step 3", x.read(0), 843);
        Tape.text(x, "read 0 0-p");
        DUE.due("below 0, no worth", x.read(0), -8);
        Tape.text(x, "read 1 7");
        DUE.due("no such bond", x.read(1), PowerBonds.BAD);
        DUE.due("read(-1)", x.read(-1), PowerBonds.BAD);
        DUE.due("read(12)", x.read(12), PowerBonds.BAD);
        x.part(GIVE, 0, 11);
        DUE.due("not whole", x.read(0), PowerBonds.NO);
        x.part(GIVE, 0, 11);
        x.bond(2, 3);
        DUE.due("many", x.read(0), PowerBonds.MANY);
        x.set(2, 3, 1);
        DUE.due("none", x.read(0), PowerBonds.NO);
        DUE.due("a text for that bond", x.read(1), PowerBonds.NO);
        x.breaks(0);
        DUE.due("texts stay with numbers", x.why(1, 1), 2);
        x.bond(0, 1);
        x.set(2, 3, 0);
        x.part(LOSS, 0, 11);
        DUE.due("no text ahead of no answer", new PowerBonds().read(0), PowerBonds.BAD);
        x.part(LOSS, 0, 11);
        x.bond(4, 5);
        DUE.due("NONE ahead of NO", x.read(2), PowerBonds.NONE);
    }
}
