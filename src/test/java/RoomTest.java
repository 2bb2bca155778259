import java.lang.management.ManagementFactory;

/** The room that 512 of the dearest calls take: next to none but what the constructor makes and what texts keep. */
public final class RoomTest {
    private static final Due DUE = new Due();
    private static final com.sun.management.ThreadMXBean THREADS =
        (com.sun.management.ThreadMXBean) ManagementFactory.getThreadMXBean();

    public static void main(String[] args) {
        room("first, to load the classes", Long.MAX_VALUE);
        room("an object and 512 calls", 64 * 1024);
        DUE.end();
    }

    private static void room(String told, long most) {
        long before = THREADS.getThreadAllocatedBytes(Thread.currentThread().getId());
        PowerBonds x = build();
        DUE.due("answers()", x.answers(), 1);
        for (int i = 0; i < 60; i++) {
            x.run(60);
            x.check(30);
            x.strokes(0);
            x.signs(3);
            x.apart(4, 5);
            x.moves(1, 2, 1);
            x.back();
        }
        long taken = THREADS.getThreadAllocatedBytes(Thread.currentThread().getId()) - before;
        System.out.println(told + ": " + taken + " bytes");
        DUE.holds(told + " take at most " + most, taken <= most);
    }

    /** Two joins, twelve parts and bonds, texts for all gives. */
    private static PowerBonds build() {
        PowerBonds x = new PowerBonds();
        for (int i = 0; i < 12; i++) {
            x.part(i < 2 ? 5 : 1 + i % 3, i < 2 ? i : 1 - i % 2, 11 + i % 9);
        }
        x.bond(0, 1);
        x.bond(1, 0);
        for (int i = 2; i < 12; i++) {
            x.bond(i % 2, i);
        }
        for (int i = 0; i < 12; i++) {
            if (x.told(i, 0) == 3) {
                Tape.text(x, "give " + i + " t*(h+" + i + ")-((t<100)&!(h=0|t/3>5))*7");
            }
        }
        x.keep();
        return x;
    }
}
