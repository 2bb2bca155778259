/** Boundary cases of promises 27 to 30. */
final class SheetsBounds {
    private static final int MIN = Bounds.MIN, MAX = Bounds.MAX, BAD = Bounds.BAD, NOTHING = Bounds.NOTHING, KIND = Bounds.KIND;
    private static final int INDEX = Bounds.INDEX, SIZE = Bounds.SIZE, PRIME = Bounds.PRIME;
    private static final int STORE = Bounds.STORE, LOSS = Bounds.LOSS, GIVE = Bounds.GIVE;

    private SheetsBounds() {
    }

    static void ask(Bounds b) {
        sheetValues(b);
        sheetPlaces(b);
        sheetMissing(b);
        markValues(b);
        markWraps(b);
        pourValues(b);
        pourPlaces(b);
        pourWorths(b);
        copyValues(b);
        copyPlaces(b);
        copyNone(b);
        copyAsTheyWere(b);
        copyRefused(b);
    }

    private static void sheetValues(Bounds b) {
        b.promise(27, "BAD: sheet, 0 .. 3");
        b.within("sheet(sheet, 1, 1)", sheet -> new PowerBonds().sheet(sheet, 1, 1), 0, 3, BAD);
        b.within("sheet(sheet, -1, 0)", sheet -> new PowerBonds().sheet(sheet, -1, 0), 0, 3, BAD);
        b.promise(27, "BAD: sort, -1 to 2");
        b.within("sheet(0, sort, 1)", sort -> new PowerBonds().sheet(0, sort, 1), -1, 2, BAD);
        b.promise(27, "BAD: n above 24");
        b.each("sheet(0, 0, n)", n -> new PowerBonds().sheet(0, 0, n), BAD, 25, 26, MAX);
        for (int sort = 0; sort < 3; sort++) {
            PowerBonds x = new PowerBonds();
            for (int n = 0; n <= 24; n++) {
                b.due("sheet(3, " + sort + ", " + n + ")", x.sheet(3, sort, n), n);
            }
            b.due("the first above", x.sheet(3, sort, 25), BAD);
        }
        b.promise(27, "SIZE: a number of places is below 0");
        b.each("sheet(0, 2, n)", n -> new PowerBonds().sheet(0, 2, n), SIZE, -1, -2, MIN);
        b.promise(27, "BAD stands ahead of SIZE");
        b.due("sheet(4, 0, -1)", new PowerBonds().sheet(4, 0, -1), BAD);
        b.due("sheet(-1, 0, -1)", new PowerBonds().sheet(-1, 0, -1), BAD);
        b.due("sheet(0, 3, -1)", new PowerBonds().sheet(0, 3, -1), BAD);
        b.due("sheet(0, -2, -1)", new PowerBonds().sheet(0, -2, -1), BAD);
    }

    private static void sheetPlaces(Bounds b) {
        b.promise(27, "a row of n places, all 0");
        for (int n = 0; n <= 24; n++) {
            PowerBonds x = new PowerBonds();
            x.sheet(1, 1, 24);
            for (int place = 0; place < 24; place++) {
                x.mark(1, place, 9);
            }
            x.sheet(1, n % 3, n);
            for (int place = 0; place < n; place++) {
                b.due("place " + place + " of " + n, x.mark(1, place, 9), 0);
            }
            b.due("no place behind " + n, x.mark(1, n, 9), INDEX);
        }
        b.promise(27, "a refused call changes nothing");
        PowerBonds x = new PowerBonds();
        x.sheet(0, 1, 2);
        x.mark(0, 1, 7);
        b.due("n above 24", x.sheet(0, 1, 25), BAD);
        b.due("n below 0", x.sheet(0, 1, -1), SIZE);
        b.due("sort", x.sheet(0, 3, 1), BAD);
        b.due("the last place", x.mark(0, 1, 8), 7);
        b.due("no place more", x.mark(0, 2, 8), INDEX);
    }

    private static void sheetMissing(Bounds b) {
        b.promise(27, "sort -1: MISSING, n any: 0");
        PowerBonds x = new PowerBonds();
        int[] any = {0, 1, 24, 25, MAX, -1, MIN};
        for (int n : any) {
            x.sheet(2, 0, 3);
            b.due("sheet(2, -1, " + n + ")", x.sheet(2, -1, n), 0);
            b.due("it is MISSING", x.mark(2, 0, 1), NOTHING);
        }
        b.due("again, of one that is MISSING", x.sheet(2, -1, 5), 0);
        b.due("another one stays MISSING", x.mark(1, 0, 1), NOTHING);
        b.due("a row again", x.sheet(2, 2, 1), 1);
        b.due("its place", x.mark(2, 0, 1), 0);
    }

    private static void markValues(Bounds b) {
        PowerBonds x = new PowerBonds();
        b.promise(28, "BAD: sheet, 0 .. 3; NOTHING");
        b.each("mark(sheet, 0, 1)", sheet -> x.mark(sheet, 0, 1), BAD, MIN, -1, 4, MAX);
        b.each("mark(sheet, 0, 1)", sheet -> x.mark(sheet, 0, 1), NOTHING, 0, 1, 2, 3);
        b.promise(28, "NOTHING stands ahead of INDEX, BAD of both");
        b.each("mark(0, place, 1)", place -> x.mark(0, place, 1), NOTHING, -1, 24, MIN, MAX);
        b.each("mark(4, place, 1)", place -> x.mark(4, place, 1), BAD, -1, 24);
        b.promise(28, "INDEX: there is no such place");
        for (int sort = 0; sort < 3; sort++) {
            x.sheet(sort, sort, 24);
            int sheet = sort;
            b.within("mark(" + sort + ", place, 1) of 24", place -> x.mark(sheet, place, 1), 0, 23, INDEX);
            x.sheet(sort, sort, 1);
            b.within("mark(" + sort + ", place, 1) of one", place -> x.mark(sheet, place, 1), 0, 0, INDEX);
            x.sheet(sort, sort, 0);
            b.each("mark(" + sort + ", place, 1) of none", place -> x.mark(sheet, place, 1), INDEX, -1, 0, 1, MIN, MAX);
        }
    }

    private static void markWraps(Bounds b) {
        PowerBonds x = new PowerBonds();
        for (int sort = 0; sort < 3; sort++) {
            x.sheet(sort, sort, 2);
        }
        b.promise(28, "of shorts its lowest 16 bits, with its sign");
        int[][] shorts = {{0, 0}, {1, 1}, {-1, -1}, {32767, 32767}, {32768, -32768}, {-32768, -32768}, {-32769, 32767}, {65535, -1},
            {65536, 0}, {65537, 1}, {MAX, -1}, {MIN, 0}};
        int was = 0;
        for (int[] pair : shorts) {
            b.due("what it was ahead of " + pair[0], x.mark(0, 1, pair[0]), was);
            was = pair[1];
        }
        b.due("what it was at last", x.mark(0, 1, 0), was);
        b.due("the place beside it stays", x.mark(0, 0, 0), 0);
        b.promise(28, "of ints all, of longs the lowest 32 bits");
        for (int sort = 1; sort < 3; sort++) {
            was = 0;
            for (int v : new int[] {1, -1, 65536, MAX, MIN, PRIME, 0}) {
                b.due("sort " + sort + ": what it was ahead of " + v, x.mark(sort, 1, v), was);
                was = v;
            }
            b.due("sort " + sort + ": the place beside it", x.mark(sort, 0, 0), 0);
        }
    }

    private static void pourValues(Bounds b) {
        PowerBonds x = Bounds.parts(STORE, 1);
        b.promise(29, "BAD; NOTHING");
        b.each("pour(sheet)", x::pour, BAD, MIN, -1, 4, MAX);
        b.each("pour(sheet)", x::pour, NOTHING, 0, 1, 2, 3);
        b.promise(29, "as far as it has some: how many");
        x.sheet(3, 0, 0);
        x.set(0, 3, 5);
        b.due("of no place", x.pour(3), 0);
        b.due("HOLD stays", x.told(0, 3), 5);
        x.sheet(3, 0, 1);
        b.due("of one place", x.pour(3), 1);
        b.due("HOLD is its 0", x.told(0, 3), 0);
        x.sheet(3, -1, 0);
        b.due("MISSING again", x.pour(3), NOTHING);
        b.promise(29, "of no STORES");
        PowerBonds none = Bounds.parts(GIVE, 3);
        none.sheet(0, 1, 24);
        none.mark(0, 0, 7);
        b.due("pour(0)", none.pour(0), 0);
        b.due("a GIVE stays", none.told(0, 3), 0);
    }

    /** From no place to more places than twelve STORES. */
    private static void pourPlaces(Bounds b) {
        b.promise(29, "STORES by their numbers, places from 0 on");
        for (int places = 0; places <= 24; places++) {
            PowerBonds x = new PowerBonds();
            x.sheet(2, 2, places);
            for (int i = 0; i < places; i++) {
                x.mark(2, i, 100 + i);
            }
            for (int i = 0; i < 12; i++) {
                x.part(i % 4 == 0 ? LOSS : STORE, i % 2, 11);
                x.set(i, 3, 7);
            }
            b.due("of " + places + " places", x.pour(2), Math.min(places, 9));
            int store = 0;
            for (int i = 0; i < 12; i++) {
                boolean poured = i % 4 != 0 && store < places;
                b.due("HOLD of " + i, x.told(i, 3), poured ? 100 + store : 7);
                store += i % 4 == 0 ? 0 : 1;
            }
        }
    }

    private static void pourWorths(Bounds b) {
        b.promise(29, "as WORTHS");
        PowerBonds x = Bounds.parts(STORE, 1);
        x.sheet(0, 0, 1);
        x.sheet(1, 1, 1);
        x.sheet(2, 2, 1);
        int[][] ints = {{-1, PRIME - 1}, {PRIME, 0}, {PRIME - 1, PRIME - 1}, {MAX, 477206}, {MIN, 522796}, {0, 0}};
        for (int[] pair : ints) {
            for (int sheet = 1; sheet < 3; sheet++) {
                x.mark(sheet, 0, pair[0]);
                x.pour(sheet);
                b.due(pair[0] + " of sort " + sheet, x.told(0, 3), pair[1]);
            }
        }
        int[][] shorts = {{32767, 32767}, {32768, PRIME - 32768}, {65535, PRIME - 1}, {65536, 0}};
        for (int[] pair : shorts) {
            x.mark(0, 0, pair[0]);
            x.pour(0);
            b.due(pair[0] + " of shorts", x.told(0, 3), pair[1]);
        }
    }

    /** Sheets 0 (places 10 .. 15) and 1 (20 .. 23) of a sort, 2 of the next sort, 3 MISSING. */
    private static PowerBonds rows(int sort) {
        PowerBonds x = new PowerBonds();
        x.sheet(0, sort, 6);
        x.sheet(1, sort, 4);
        x.sheet(2, (sort + 1) % 3, 6);
        for (int i = 0; i < 6; i++) {
            x.mark(0, i, 10 + i);
        }
        for (int i = 0; i < 4; i++) {
            x.mark(1, i, 20 + i);
        }
        return x;
    }

    private static void tells(Bounds b, PowerBonds x, int sheet, int... want) {
        x.lay(0, 2, sheet);
        for (int i = 0; i < want.length; i++) {
            b.due("place " + i + " of SHEET " + sheet, x.item(0, i), want[i]);
        }
        b.due("places of SHEET " + sheet, x.item(0, want.length), INDEX);
    }

    private static void copyValues(Bounds b) {
        b.promise(30, "BAD: SHEETS 0 .. 3");
        b.within("copy(from, 0, 0, 0, 0)", from -> rows(1).copy(from, 0, 0, 0, 0), 0, 3, BAD);
        b.within("copy(0, 0, to, 0, 0)", to -> rows(1).copy(0, 0, to, 0, 0), 0, 3, BAD);
        b.promise(30, "NOTHING, of either");
        PowerBonds x = rows(1);
        b.due("copy(3, 0, 0, 0, 1)", x.copy(3, 0, 0, 0, 1), NOTHING);
        b.due("copy(0, 0, 3, 0, 1)", x.copy(0, 0, 3, 0, 1), NOTHING);
        b.due("copy(3, 0, 3, 0, 0)", x.copy(3, 0, 3, 0, 0), NOTHING);
        b.promise(30, "KIND: they are not of one sort");
        for (int sort = 0; sort < 3; sort++) {
            b.due("sort " + sort + " and the next", rows(sort).copy(0, 0, 2, 0, 1), KIND);
            b.due("sort " + sort + " and the next, none", rows(sort).copy(2, 0, 0, 0, 0), KIND);
        }
        b.promise(30, "BAD, then NOTHING, then KIND, then INDEX");
        b.due("BAD ahead of NOTHING", x.copy(4, 0, 3, 0, -1), BAD);
        b.due("BAD ahead of NOTHING", x.copy(3, 0, -1, 0, -1), BAD);
        b.due("NOTHING ahead of INDEX", x.copy(3, -1, 0, -1, -1), NOTHING);
        b.due("KIND ahead of INDEX", x.copy(0, -1, 2, -1, -1), KIND);
        b.due("KIND ahead of INDEX", x.copy(2, 0, 0, 0, 7), KIND);
    }

    private static void copyPlaces(Bounds b) {
        b.promise(30, "INDEX, at each place and for each number of places");
        for (int place = -1; place <= 7; place++) {
            for (int at = -1; at <= 5; at++) {
                PowerBonds x = rows(0);
                for (int many = -1; many <= 7; many++) {
                    boolean good = place >= 0 && at >= 0 && many >= 0 && place + many <= 6 && at + many <= 4;
                    b.due("copy(0, " + place + ", 1, " + at + ", " + many + ")", x.copy(0, place, 1, at, many), good ? many : INDEX);
                }
            }
        }
        b.promise(30, "INDEX (many below 0, too), far out");
        PowerBonds x = rows(2);
        b.each("copy(0, 0, 1, 0, many)", many -> x.copy(0, 0, 1, 0, many), INDEX, MIN, -1, 5, MAX);
        b.each("copy(0, place, 1, 0, 1)", place -> x.copy(0, place, 1, 0, 1), INDEX, MIN, -1, 6, MAX);
        b.each("copy(0, 0, 1, at, 1)", at -> x.copy(0, 0, 1, at, 1), INDEX, MIN, -1, 4, MAX);
        b.each("copy(0, n, 1, 0, n)", n -> x.copy(0, n, 1, 0, n), INDEX, MIN, MIN + 1, -1, 4, MAX, MAX - 3, 1 << 30);
        b.each("copy(0, 0, 1, n, n)", n -> x.copy(0, 0, 1, n, n), INDEX, MIN, MIN + 1, -1, 3, MAX, 1 << 30);
        b.due("copy(0, 1, 1, 0, MAX)", x.copy(0, 1, 1, 0, MAX), INDEX);
        b.due("copy(0, MAX, 1, 0, 1)", x.copy(0, MAX, 1, 0, 1), INDEX);
    }

    private static void copyNone(Bounds b) {
        b.promise(30, "many 0: not at the place behind the last one");
        PowerBonds x = rows(1);
        b.each("copy(0, place, 0, 0, 0)", place -> x.copy(0, place, 0, 0, 0), 0, 0, 1, 5, 6);
        b.each("copy(0, place, 0, 0, 0)", place -> x.copy(0, place, 0, 0, 0), INDEX, -1, 7, MIN, MAX);
        b.each("copy(0, 0, 1, at, 0)", at -> x.copy(0, 0, 1, at, 0), 0, 0, 1, 3, 4);
        b.each("copy(0, 0, 1, at, 0)", at -> x.copy(0, 0, 1, at, 0), INDEX, -1, 5, MIN, MAX);
        tells(b, x, 0, 10, 11, 12, 13, 14, 15);
        tells(b, x, 1, 20, 21, 22, 23);
        b.promise(30, "of a SHEET of no places");
        x.sheet(1, 1, 0);
        b.due("none to it", x.copy(0, 0, 1, 0, 0), 0);
        b.due("none from it", x.copy(1, 0, 0, 6, 0), 0);
        b.due("one to it", x.copy(0, 0, 1, 0, 1), INDEX);
        b.due("one from it", x.copy(1, 0, 0, 0, 1), INDEX);
        b.due("none behind it", x.copy(1, 1, 0, 0, 0), INDEX);
    }

    private static void copyAsTheyWere(Bounds b) {
        b.promise(30, "to the same one, as they were");
        for (int sort = 0; sort < 3; sort++) {
            PowerBonds up = rows(sort);
            b.due("one place up", up.copy(0, 0, 0, 1, 5), 5);
            tells(b, up, 0, 10, 10, 11, 12, 13, 14);
            PowerBonds down = rows(sort);
            b.due("one place down", down.copy(0, 1, 0, 0, 5), 5);
            tells(b, down, 0, 11, 12, 13, 14, 15, 15);
            PowerBonds far = rows(sort);
            b.due("three places up", far.copy(0, 0, 0, 3, 3), 3);
            tells(b, far, 0, 10, 11, 12, 10, 11, 12);
            PowerBonds same = rows(sort);
            b.due("where they are", same.copy(0, 0, 0, 0, 6), 6);
            tells(b, same, 0, 10, 11, 12, 13, 14, 15);
            PowerBonds other = rows(sort);
            b.due("all of another one", other.copy(1, 0, 0, 2, 4), 4);
            tells(b, other, 0, 10, 11, 20, 21, 22, 23);
            tells(b, other, 1, 20, 21, 22, 23);
        }
        PowerBonds full = new PowerBonds();
        full.sheet(0, 2, 24);
        full.sheet(3, 2, 24);
        full.mark(0, 0, MIN);
        full.mark(0, 23, MAX);
        b.due("24 places", full.copy(0, 0, 3, 0, 24), 24);
        b.due("the first", full.mark(3, 0, 0), MIN);
        b.due("the last", full.mark(3, 23, 0), MAX);
    }

    private static void copyRefused(Bounds b) {
        b.promise(30, "a refused call changes nothing");
        PowerBonds x = rows(1);
        b.due("one too many from", x.copy(0, 3, 1, 0, 4), INDEX);
        b.due("one too many to", x.copy(0, 0, 1, 1, 4), INDEX);
        b.due("of another sort", x.copy(0, 0, 2, 0, 6), KIND);
        tells(b, x, 0, 10, 11, 12, 13, 14, 15);
        tells(b, x, 1, 20, 21, 22, 23);
        tells(b, x, 2, 0, 0, 0, 0, 0, 0);
    }
}
