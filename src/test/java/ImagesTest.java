/** Promises 35 to 39: numbers that wait, the steps told, images, counts. */
public final class ImagesTest {
    private static final int STORE = 1, LOSS = 2, GIVE = 3;
    private static final Due DUE = new Due();

    public static void main(String[] args) {
        tell();
        check();
        checkRefused();
        checkFromImage();
        images();
        kept();
        count();
        DUE.end();
    }

    /** STORE 0 (share 2 by 1, part 0) and a GIVE of paces (part 1) that gives t: holds 0, 0, 1, 3, 6, .. */
    private static PowerBonds machine() {
        PowerBonds x = new PowerBonds();
        x.part(STORE, 0, 21);
        x.part(GIVE, 1, 11);
        x.bond(1, 0);
        Tape.text(x, "give 1 t");
        return x;
    }

    private static int tellAndCheck(PowerBonds x, int n, int... told) {
        for (int v : told) {
            x.tell(v);
        }
        return x.check(n);
    }

    private static void tell() {
        PowerBonds x = new PowerBonds();
        for (int i = 1; i <= 60; i++) {
            DUE.due("tell " + i, x.tell(-i), i);
        }
        DUE.due("one more", x.tell(0), PowerBonds.FULL);
        DUE.due("waiting", x.count(5), 60);
        x.check(1);
        DUE.due("none wait then", x.count(5), 0);
        DUE.due("tell again", x.tell(7), 1);
    }

    private static void check() {
        PowerBonds x = machine();
        x.keep();
        int[] due = {0, 0, 1, 2, 3, 6, 6, 12};
        DUE.due("one step", tellAndCheck(x, 1, 0, 0), 0);
        DUE.due("four steps", tellAndCheck(x, 4, due), 0);
        DUE.due("none told", tellAndCheck(x, 1), 1);
        DUE.due("one told", tellAndCheck(x, 1, 0), 2);
        DUE.due("one too many", tellAndCheck(x, 1, 0, 0, 0), 3);
        DUE.due("two too many", tellAndCheck(x, 1, 0, 0, 1, 2), 3);
        for (int i = 0; i < 8; i++) {
            int[] wrong = due.clone();
            wrong[i] += 1000003;
            DUE.due("the wrong one is " + i, tellAndCheck(x, 4, wrong), 1 + i);
            DUE.due("wrong and too many", tellAndCheck(x, 3, wrong), Math.min(7, 1 + i));
            DUE.due("none wait then", x.count(5), 0);
        }
        int sum = 0;
        for (int step = 0; step < 30; step++) {
            sum += step;
            x.tell(sum);
            x.tell(2 * sum);
        }
        DUE.due("thirty steps", x.check(30), 0);
        DUE.due("nothing is changed", x.count(7) + x.told(0, 3) + x.told(1, 3), 0);
    }

    private static void checkRefused() {
        PowerBonds x = machine();
        DUE.due("no image", tellAndCheck(x, 1, 0, 0), PowerBonds.NO);
        DUE.due("none wait then", x.count(5), 0);
        for (int n : new int[] {0, -1, 31, Integer.MIN_VALUE, Integer.MAX_VALUE}) {
            DUE.due("check(" + n + ")", tellAndCheck(x, n, 0, 0), PowerBonds.BAD);
            DUE.due("none wait then", x.count(5), 0);
        }
        x.part(LOSS, 0, 11);
        x.keep();
        DUE.due("not whole", tellAndCheck(x, 1, 0, 0), PowerBonds.NO);
        DUE.due("not whole, bad", tellAndCheck(x, 31, 0, 0), PowerBonds.BAD);
        PowerBonds many = new PowerBonds();
        many.part(GIVE, 0, 11);
        many.part(GIVE, 0, 11);
        many.bond(0, 1);
        many.keep();
        DUE.due("many", tellAndCheck(many, 1, 0, 0), PowerBonds.NO);
    }

    private static void checkFromImage() {
        PowerBonds x = machine();
        x.run(3);
        DUE.due("keep()", x.keep(), 3);
        x.run(5);
        x.set(0, 3, 77);
        Tape.text(x, "give 1 0");
        x.breaks(0);
        DUE.due("from the image on, by its texts", tellAndCheck(x, 2, 6, 12, 10, 20), 0);
        DUE.due("what is now stays", x.count(7), 8);
        DUE.due("what is held stays", x.told(0, 3), 77);
        DUE.due("bonds stay", x.count(1), 0);
        PowerBonds two = new PowerBonds();
        two.part(STORE, 0, 11);
        two.part(GIVE, 1, 11);
        two.part(STORE, 1, 31);
        two.part(GIVE, 0, 11);
        two.bond(3, 2);
        two.bond(1, 0);
        two.set(1, 3, 1000000);
        two.set(3, 3, 4);
        two.keep();
        DUE.due("all stores together, push of bond 0", tellAndCheck(two, 2, 1, 4, 2, 4), 0);
    }

    private static void images() {
        PowerBonds x = machine();
        DUE.due("back() without one", x.back(), PowerBonds.NO);
        x.run(2);
        DUE.due("keep()", x.keep(), 2);
        x.part(LOSS, 1, 99);
        x.part(LOSS, 1, 98);
        x.bond(3, 2);
        x.run(4);
        x.set(0, 2, 55);
        x.breaks(0);
        x.dual();
        Tape.text(x, "give 1 t*100");
        Tape.text(x, "read 0 p");
        for (int again = 0; again < 2; again++) {
            DUE.due("back()", x.back(), 2);
            DUE.due("parts", x.count(0), 2);
            DUE.due("bonds", x.count(1), 1);
            DUE.due("texts", x.count(4), 1);
            DUE.due("step", x.count(7), 2);
            DUE.due("share", x.told(0, 2), 21);
            DUE.due("sort", x.told(0, 1), 0);
            DUE.due("hold", x.told(0, 3), 1);
            DUE.due("from", x.of(0, 0), 1);
            DUE.due("to", x.of(0, 1), 0);
            DUE.due("text", x.why(0, 1), 0);
            DUE.due("reading", x.why(1, 0), PowerBonds.NONE);
            DUE.due("goes on", x.run(2), 4);
            DUE.due("by the text", x.told(0, 3), 6);
            Tape.text(x, "give 1 7");
            DUE.due("a new text", x.why(0, 1), 1);
        }
        DUE.due("another image", x.keep(), 4);
        x.run(1);
        DUE.due("back to that", x.back(), 4);
    }

    /** Sheets, slots, numbers that wait and the tape are none of an image. */
    private static void kept() {
        PowerBonds x = machine();
        x.keep();
        x.sheet(0, 1, 3);
        x.lay(0, 3, 17);
        x.tell(5);
        x.feed(1, 2, 3);
        x.back();
        DUE.due("sheet", x.mark(0, 0, 4), 0);
        DUE.due("slot", x.rest(0, 10), 7);
        DUE.due("waiting", x.count(5), 1);
        DUE.due("tape", x.count(6), 12);
        x.keep();
        DUE.due("tape behind keep", x.count(6), 12);
        x.part(LOSS, 0, 34);
        x.lay(1, 1, 2);
        x.back();
        DUE.due("a part in a slot, for good", x.ask(1, 2), 750003);
    }

    private static void count() {
        PowerBonds x = machine();
        x.part(STORE, 1, 11);
        x.part(LOSS, 1, 11);
        x.part(LOSS, 1, 21);
        x.part(LOSS, 1, 11);
        x.bond(2, 3);
        x.bond(4, 5);
        x.set(0, 3, 1000000);
        x.set(2, 3, 5);
        x.set(3, 3, 100);
        x.tell(1);
        x.feed(0, 0, 0);
        x.trim(7);
        int[] want = {6, 3, 2, 2, 1, 1, 7, 0};
        for (int i = 0; i < 8; i++) {
            DUE.due("count(" + i + ")", x.count(i), want[i]);
        }
        x.run(9);
        DUE.due("count(7)", x.count(7), 9);
        for (int what : new int[] {-1, 8, Integer.MIN_VALUE, Integer.MAX_VALUE}) {
            DUE.due("count(" + what + ")", x.count(what), PowerBonds.BAD);
        }
    }
}
