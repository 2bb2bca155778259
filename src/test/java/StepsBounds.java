/** Boundary cases of promises 13 and 19, and of GIVES by TEXTS. */
final class StepsBounds {
    private static final int MIN = Bounds.MIN, MAX = Bounds.MAX, BAD = Bounds.BAD, NO = Bounds.NO, FULL = Bounds.FULL, MANY = Bounds.MANY;
    private static final int NONE = Bounds.NONE, PRIME = Bounds.PRIME;
    private static final int STORE = Bounds.STORE, LOSS = Bounds.LOSS, GIVE = Bounds.GIVE, JOIN = Bounds.JOIN;

    private StepsBounds() {
    }

    static void ask(Bounds b) {
        values(b);
        lastStep(b);
        order(b);
        refused(b);
        wraps(b);
        givesByNumbers(b);
        givesThatAreThere(b);
        givesAtTheLast(b);
        readValues(b);
        readRefused(b);
        readGives(b);
    }

    /** STORE 0 that sums 1 with each STEP, at that STEP. */
    private static PowerBonds at(int step) {
        PowerBonds x = Bounds.pair(STORE, 0, GIVE, 1);
        x.set(1, 3, 1);
        for (int left = step; left > 0; left -= 60) {
            x.run(Math.min(left, 60));
        }
        return x;
    }

    private static void values(Bounds b) {
        b.promise(13, "n (1 .. 60) STEPS");
        b.within("run(n)", n -> Bounds.pair(STORE, 0, GIVE, 1).run(n), 1, 60, BAD);
        PowerBonds x = at(0);
        b.due("run(1): the STEP", x.run(1), 1);
        b.due("what the STORE holds", x.told(0, 3), 1);
        b.due("run(60): the STEP", x.run(60), 61);
        b.due("what the STORE holds", x.told(0, 3), 61);
        b.each("BAD", x::run, BAD, 0, 61, -1, MIN, MAX);
        b.due("the STEP stays", x.count(7), 61);
        b.due("what the STORE holds stays", x.told(0, 3), 61);
    }

    private static void lastStep(Bounds b) {
        b.promise(13, "FULL: it would be above 9999");
        PowerBonds x = at(9939);
        x.keep();
        b.due("ahead", x.count(7), 9939);
        b.due("run(60) to the last", x.run(60), 9999);
        b.due("what the STORE holds", x.told(0, 3), 9999);
        b.due("one more", x.run(1), FULL);
        b.due("sixty more", x.run(60), FULL);
        b.due("the STEP stays", x.count(7), 9999);
        b.due("what the STORE holds stays", x.told(0, 3), 9999);
        x.back();
        b.due("run(1)", x.run(1), 9940);
        b.due("one too many", x.run(60), FULL);
        b.due("the STEP stays", x.count(7), 9940);
        b.due("run(59) to the last", x.run(59), 9999);
        x.back();
        x.run(59);
        b.due("9998", x.count(7), 9998);
        b.due("two", x.run(2), FULL);
        b.due("one", x.run(1), 9999);
    }

    private static void order(Bounds b) {
        b.promise(13, "BAD, then FULL, then NO, MANY");
        PowerBonds x = at(9999);
        b.each("at the last STEP", x::run, BAD, 0, 61, MIN, MAX);
        x.part(LOSS, 0, 11);
        b.due("FULL ahead of NO", x.run(1), FULL);
        b.due("BAD ahead of both", x.run(0), BAD);
        PowerBonds y = at(9998);
        y.part(LOSS, 0, 11);
        b.due("FULL ahead of NO", y.run(2), FULL);
        b.due("NO with room for one", y.run(1), NO);
        PowerBonds z = at(9998);
        Bounds.tieGives(z, 0);
        b.due("FULL ahead of MANY", z.run(2), FULL);
        b.due("MANY with room for one", z.run(1), MANY);
    }

    private static void refused(Bounds b) {
        b.promise(13, "NO, MANY: it stays as ahead of all");
        PowerBonds x = at(3);
        Tape.text(x, "give 1 h+t");
        Bounds.tieGives(x, 0);
        b.due("MANY", x.run(2), MANY);
        stays(b, x);
        x.set(2, 3, 1);
        b.due("none", x.run(2), NO);
        stays(b, x);
        x.breaks(1);
        b.due("not WHOLE", x.run(60), NO);
        stays(b, x);
        b.due("of no PARTS", new PowerBonds().run(1), NO);
    }

    private static void stays(Bounds b, PowerBonds x) {
        b.due("the STEP", x.count(7), 3);
        b.due("what the STORE holds", x.told(0, 3), 3);
        b.due("what the GIVE holds", x.told(1, 3), 4);
    }

    private static void wraps(Bounds b) {
        b.promise(13, "HOLD becomes HOLD and its PACE (SORT 0) or its PUSH (SORT 1), by the prime");
        PowerBonds x = at(0);
        x.set(0, 3, PRIME - 2);
        x.run(1);
        b.due("1000001 and 1", x.told(0, 3), PRIME - 1);
        x.run(1);
        b.due("1000002 and 1", x.told(0, 3), 0);
        x.set(1, 3, -1);
        x.run(1);
        b.due("0 and -1", x.told(0, 3), PRIME - 1);
        x.run(1);
        b.due("1000002 and 1000002", x.told(0, 3), PRIME - 2);
        PowerBonds y = Bounds.pair(STORE, 1, GIVE, 0);
        y.set(0, 3, PRIME - 1);
        y.set(1, 3, PRIME - 1);
        y.run(1);
        b.due("SORT 1: 1000002 and 1000002", y.told(0, 3), PRIME - 2);
        y.set(1, 3, 0);
        y.run(60);
        b.due("SORT 1: and 0, sixty times", y.told(0, 3), PRIME - 2);
    }

    private static void givesByNumbers(Bounds b) {
        b.promise(13, "as the next STEP is open, each GIVE with a TEXT that counts, from PART 0 to PART 11");
        PowerBonds x = new PowerBonds();
        for (int i = 0; i < 6; i++) {
            x.part(GIVE, 0, 11);
            x.part(GIVE, 1, 11);
            x.bond(2 * i, 2 * i + 1);
        }
        Tape.text(x, "give 0 t+h");
        Tape.text(x, "give 11 t*10-1");
        b.due("PART 0 as the TEXT comes", x.told(0, 3), 0);
        b.due("PART 11 as the TEXT comes", x.told(11, 3), PRIME - 1);
        x.set(0, 3, 100);
        x.set(1, 3, 50);
        b.due("run(1)", x.run(1), 1);
        b.due("PART 0: t is the STEP that is open then", x.told(0, 3), 101);
        b.due("PART 1, without a TEXT", x.told(1, 3), 50);
        b.due("PART 11", x.told(11, 3), 9);
        b.due("run(60)", x.run(60), 61);
        b.due("PART 11", x.told(11, 3), 609);
        b.due("PART 0", x.told(0, 3), 100 + 61 * 62 / 2);
    }

    private static void givesThatAreThere(Bounds b) {
        b.promise(16, "as a TEXT comes, that GIVE alone (if there is such a GIVE then)");
        PowerBonds x = Bounds.pair(GIVE, 0, LOSS, 0);
        b.due("for the LOSS", Tape.text(x, "give 1 7"), 0);
        b.due("the LOSS stays", x.told(1, 3), 0);
        b.due("for no PART", Tape.text(x, "give 2 7"), 1);
        b.due("for the GIVE", Tape.text(x, "give 0 9"), 2);
        b.due("the GIVE has it at once", x.told(0, 3), 9);
        x.part(GIVE, 0, 11);
        x.part(LOSS, 0, 11);
        x.bond(2, 3);
        b.due("a GIVE that comes behind its TEXT has 0", x.told(2, 3), 0);
        x.set(0, 3, 1);
        Tape.text(x, "give 11 5");
        b.due("a TEXT for another one leaves it", x.told(0, 3), 1);
        Tape.text(x, "read 0 5");
        b.due("a TEXT for a BOND leaves it", x.told(0, 3), 1);
        b.due("run(1)", x.run(1), 1);
        b.due("the GIVE that came behind its TEXT", x.told(2, 3), 7);
        b.due("the first one", x.told(0, 3), 9);
        b.due("the LOSS", x.told(1, 3), 0);
        b.promise(16, "a HOLD becomes its WORTH");
        Tape.text(x, "give 0 0-1");
        b.due("of -1", x.told(0, 3), PRIME - 1);
        Tape.text(x, "give 0 1000*1000+3");
        b.due("of 1000003", x.told(0, 3), 0);
        Tape.text(x, "give 0 256*256*256*128-1");
        b.due("of the largest int", x.told(0, 3), 477206);
        Tape.text(x, "give 0 256*256*256*128");
        b.due("of the smallest int", x.told(0, 3), 522796);
    }

    private static void givesAtTheLast(Bounds b) {
        b.promise(13, "9999 at most: the TEXTS are worked out for it, too");
        PowerBonds x = at(9998);
        Tape.text(x, "give 1 t");
        Tape.text(x, "read 0 t");
        b.due("t at 9998", x.told(1, 3), 9998);
        b.due("run(1)", x.run(1), 9999);
        b.due("t at 9999", x.told(1, 3), 9999);
        b.due("what the STORE holds", x.told(0, 3), 9998 + 9998);
        b.due("read(0)", x.read(0), 9999);
        b.due("FULL", x.run(1), FULL);
        b.due("the GIVE stays", x.told(1, 3), 9999);
    }

    private static void readValues(Bounds b) {
        b.promise(19, "BAD: there is no such BOND");
        PowerBonds x = Bounds.pair(GIVE, 0, LOSS, 0);
        Tape.text(x, "read 0 1");
        Tape.text(x, "read 1 1");
        Tape.text(x, "read 11 1");
        b.within("read(bond) of one", x::read, 0, 0, BAD);
        b.each("read(bond) of one, though there is a TEXT", x::read, BAD, 1, 11, 12);
        PowerBonds full = new PowerBonds();
        full.part(JOIN, 0, 11);
        full.part(JOIN, 1, 11);
        for (int i = 0; i < 12; i++) {
            full.bond(0, 1);
        }
        Tape.text(full, "read 0 p+1");
        Tape.text(full, "read 11 f+2");
        b.within("read(bond) of twelve", full::read, 0, 11, BAD);
        b.due("the first", full.read(0), 1);
        b.due("the last", full.read(11), 2);
        b.promise(19, "NONE: there is no TEXT");
        b.each("read(bond)", full::read, NONE, 1, 10);
    }

    private static void readRefused(Bounds b) {
        PowerBonds x = Bounds.pair(GIVE, 0, LOSS, 0);
        b.promise(19, "NONE: a TEXT for the PART of that number is none");
        Tape.text(x, "give 0 1");
        b.due("read(0)", x.read(0), NONE);
        b.promise(19, "NONE stands ahead of NO, MANY");
        Bounds.tieGives(x, 0);
        b.due("with MANY", x.read(0), NONE);
        x.set(2, 3, 1);
        b.due("with none", x.read(0), NONE);
        x.part(LOSS, 0, 11);
        b.due("not WHOLE", x.read(0), NONE);
        b.promise(19, "NO, MANY likewise");
        PowerBonds y = Bounds.pair(GIVE, 0, LOSS, 0);
        Tape.text(y, "read 0 7");
        b.due("one ANSWER", y.read(0), 7);
        Bounds.tieGives(y, 0);
        b.due("MANY, though no name is asked for", y.read(0), MANY);
        y.set(2, 3, 1);
        b.due("none", y.read(0), NO);
        y.part(LOSS, 0, 11);
        b.due("not WHOLE", y.read(0), NO);
        b.due("BAD stands ahead", y.read(2), BAD);
    }

    private static void readGives(Bounds b) {
        b.promise(19, "an E is an int, no WORTH");
        PowerBonds x = Bounds.pair(GIVE, 0, GIVE, 1);
        x.set(0, 3, -1);
        Tape.text(x, "read 0 p");
        b.due("p is the largest WORTH", x.read(0), PRIME - 1);
        Tape.text(x, "read 0 f");
        b.due("f is the smallest", x.read(0), 0);
        Tape.text(x, "read 0 t");
        b.due("t is 0", x.read(0), 0);
        Tape.text(x, "read 0 p+1");
        b.due("1000003 stays", x.read(0), PRIME);
        Tape.text(x, "read 0 f-1");
        b.due("-1 stays", x.read(0), -1);
        Tape.text(x, "read 0 p*p");
        b.due("1000002 times 1000002 wraps around", x.read(0), 1000002 * 1000002);
        Tape.text(x, "read 0 256*256*256*128-1");
        b.due("the largest int", x.read(0), MAX);
        Tape.text(x, "read 0 256*256*256*128");
        b.due("the smallest int", x.read(0), MIN);
        b.promise(19, "the TEXT that counts: the last of eight");
        b.due("why(1, 0)", x.why(1, 0), 7);
    }
}
