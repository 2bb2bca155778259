/** Boundary cases of promises 14 and 15. */
final class TapeBounds {
    private static final int MIN = Bounds.MIN, MAX = Bounds.MAX, BAD = Bounds.BAD, FULL = Bounds.FULL;
    private static final int GIVE_WORD = 0x67697665, BLANKS = 0x20202020;

    private TapeBounds() {
    }

    static void ask(Bounds b) {
        feedFull(b);
        feedBytes(b);
        trimValues(b);
        trimKeeps(b);
    }

    private static void feedFull(Bounds b) {
        b.promise(14, "how many it has; FULL: it would have more than 96");
        PowerBonds x = new PowerBonds();
        b.due("the first twelve", x.feed(GIVE_WORD, 0x20302031, 0x2b202020), 12);
        for (int i = 2; i <= 7; i++) {
            b.due("feed " + i, x.feed(BLANKS, BLANKS, BLANKS), 12 * i);
        }
        b.due("feed 8: it has just 96", x.feed(BLANKS, BLANKS, 0x20202037), 96);
        b.due("feed 9", x.feed(0, MIN, MAX), FULL);
        b.due("bytes", x.count(6), 96);
        b.promise(14, "FULL changes nothing");
        b.due("THE TAPE is the TEXT that it was", x.text(), 0);
        b.due("its numbers", x.textTold(0, 2), 2);
        b.promise(14, "twelve bytes have room behind 84, not behind 85");
        b.due("used up", x.feed(0, 0, 0), 12);
        for (int i = 0; i < 7; i++) {
            x.feed(0, 0, 0);
        }
        b.each("trim, then feed: FULL", n -> x.trim(n) == n ? x.feed(0, 0, 0) : 0, FULL, 96, 95, 86, 85);
        x.trim(84);
        b.due("behind 84", x.feed(0, 0, 0), 96);
        x.trim(0);
        b.due("behind none", x.feed(0, 0, 0), 12);
    }

    /** The place of the fault tells which byte came first. */
    private static void feedBytes(Bounds b) {
        b.promise(14, "twelve bytes, the highest of each number first");
        PowerBonds x = new PowerBonds();
        x.feed(GIVE_WORD, 0x20312074, BLANKS);
        b.due("give 1 t", x.text(), 0);
        b.due("its PART", x.textTold(0, 1), 1);
        x.feed(GIVE_WORD, 0x20312032, 0x30303030);
        b.due("the third number is the last: 20000 has five digits", x.text(), -107);
        x.feed(BLANKS, BLANKS, BLANKS - 1);
        b.due("the lowest byte of the last number", x.text(), -111);
        x.feed(0x1f202020, BLANKS, BLANKS);
        b.due("the highest byte of the first", x.text(), -100);
        x.feed(BLANKS, 0x20ff2020, BLANKS);
        b.due("a byte of 255", x.text(), -105);
        x.feed(BLANKS, BLANKS, 0x80202020);
        b.due("a number below 0", x.text(), -108);
        x.feed(BLANKS, -1, MIN);
        b.due("of -1 all bytes are 255", x.text(), -104);
    }

    private static void trimValues(Bounds b) {
        b.promise(15, "BAD: below 0, or more than it has");
        PowerBonds x = new PowerBonds();
        b.due("trim(0) of none", x.trim(0), 0);
        b.each("trim(n) of none", x::trim, BAD, -1, 1, 12, 96, MIN, MAX);
        x.feed(0, 0, 0);
        b.each("trim(n) of twelve", x::trim, BAD, -1, 13, 24, 96, MIN, MAX);
        b.due("bytes stay", x.count(6), 12);
        b.due("all of them", x.trim(12), 12);
        b.due("all but one", x.trim(11), 11);
        b.due("one that is gone", x.trim(12), BAD);
        b.due("one", x.trim(1), 1);
        b.due("none", x.trim(0), 0);
        b.due("bytes", x.count(6), 0);
        for (int i = 0; i < 8; i++) {
            x.feed(0, 0, 0);
        }
        b.each("trim(n) of 96", x::trim, BAD, -1, 97, MIN, MAX);
        b.due("all of 96", x.trim(96), 96);
    }

    private static void trimKeeps(Bounds b) {
        b.promise(15, "THE TAPE keeps its first n bytes");
        PowerBonds x = new PowerBonds();
        x.feed(GIVE_WORD, 0x20312074, 0x2b312b31);
        x.trim(10);
        b.due("give 1 t+1", x.text(), 0);
        b.due("its numbers and names", x.textTold(0, 2), 2);
        x.feed(GIVE_WORD, 0x20312074, 0x2b312b31);
        x.trim(9);
        b.due("give 1 t+", x.text(), -109);
        x.feed(GIVE_WORD, 0x20312074, 0x2b312b31);
        x.trim(8);
        x.feed(0x2a372020, BLANKS, BLANKS);
        b.due("what comes stands right behind these: give 1 t*7", x.text(), 1);
        b.due("its numbers and names", x.textTold(1, 2), 2);
        x.feed(GIVE_WORD, 0x20312074, 0x2b312b31);
        x.trim(0);
        b.due("none are left", x.text(), -100);
    }
}
