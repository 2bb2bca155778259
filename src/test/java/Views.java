import java.util.ArrayList;
import java.util.List;

/** All that can be asked of an object, in views: each is taken of an object of its own, as some change it. */
final class Views {
    static final int MACHINE = 0, IMAGE = 1, SLOTS = 2, SHEETS = 3, WAITING = 4, TAPE = 5, ALL = 6;

    private Views() {
    }

    static List<Integer> of(PowerBonds x, int view) {
        List<Integer> seen = new ArrayList<>();
        switch (view) {
            case MACHINE -> machine(x, seen);
            case IMAGE -> {
                seen.add(x.back());
                machine(x, seen);
            }
            case SLOTS -> slots(x, seen);
            case SHEETS -> sheets(x, seen);
            case WAITING -> {
                int waiting = x.count(5);
                seen.add(waiting);
                seen.add(x.check(Math.max(1, waiting / 2)));
            }
            default -> tape(x, seen);
        }
        return seen;
    }

    private static void machine(PowerBonds x, List<Integer> seen) {
        for (int what : new int[] {0, 1, 2, 3, 4, 7}) {
            seen.add(x.count(what));
        }
        for (int part = 0; part < 12; part++) {
            for (int what = 0; what < 4; what++) {
                seen.add(x.told(part, what));
            }
        }
        for (int bond = 0; bond < 12; bond++) {
            seen.add(x.of(bond, 0));
            seen.add(x.of(bond, 1));
        }
        for (int text = 0; text < 14; text++) {
            for (int what = 0; what < 3; what++) {
                seen.add(x.textTold(text, what));
            }
        }
        for (int of = 0; of < 12; of++) {
            seen.add(x.why(0, of));
            seen.add(x.why(1, of));
        }
    }

    private static void slots(PowerBonds x, List<Integer> seen) {
        for (int slot = 0; slot < 5; slot++) {
            for (int kind = 0; kind < 6; kind++) {
                seen.add(x.ask(slot, kind));
            }
            seen.add(x.rest(slot, Integer.MAX_VALUE));
            seen.add(x.rest(slot, Integer.MIN_VALUE));
            for (int place = 0; place < 25; place++) {
                seen.add(x.item(slot, place));
            }
        }
    }

    private static void sheets(PowerBonds x, List<Integer> seen) {
        for (int sheet = 0; sheet < 4; sheet++) {
            seen.add(x.lay(0, 2, sheet));
            for (int place = 0; place < 25; place++) {
                seen.add(x.item(0, place));
            }
            for (int other = 0; other < sheet; other++) {
                seen.add(x.copy(sheet, 0, other, 0, 0));
            }
            x.mark(sheet, 0, 70000);
            seen.add(x.mark(sheet, 0, 0));
        }
    }

    private static void tape(PowerBonds x, List<Integer> seen) {
        seen.add(x.count(6));
        int text = x.text();
        seen.add(text);
        for (int what = 0; what < 3; what++) {
            seen.add(x.textTold(text, what));
        }
    }
}
