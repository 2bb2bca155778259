/** Promises 14 to 18: the tape, texts and their faults, which text counts. */
public final class TextsTest {
    private static final Due DUE = new Due();

    public static void main(String[] args) {
        feed();
        trim();
        faults();
        nested();
        goodTexts();
        full();
        worked();
        counting();
        DUE.end();
    }

    private static void feed() {
        PowerBonds x = new PowerBonds();
        for (int i = 1; i <= 8; i++) {
            DUE.due("feed " + i, x.feed(i, -1, Integer.MIN_VALUE), 12 * i);
        }
        DUE.due("a ninth", x.feed(0, 0, 0), PowerBonds.FULL);
        DUE.due("the tape stays", x.count(6), 96);
        DUE.due("trim(85)", x.trim(85), 85);
        DUE.due("one byte too many", x.feed(0, 0, 0), PowerBonds.FULL);
        DUE.due("trim(84)", x.trim(84), 84);
        DUE.due("just enough", x.feed(0, 0, 0), 96);
        x.trim(0);
        x.feed(0x67697665, 0x20312032, 0x20202020);
        DUE.due("the highest byte first: give 1 2", x.text(), 0);
        DUE.due("its part", x.textTold(0, 1), 1);
    }

    private static void trim() {
        PowerBonds x = new PowerBonds();
        DUE.due("trim(1) of none", x.trim(1), PowerBonds.BAD);
        DUE.due("trim(0) of none", x.trim(0), 0);
        x.feed(1, 2, 3);
        DUE.due("trim(13)", x.trim(13), PowerBonds.BAD);
        DUE.due("trim(-1)", x.trim(-1), PowerBonds.BAD);
        DUE.due("trim(MIN)", x.trim(Integer.MIN_VALUE), PowerBonds.BAD);
        DUE.due("trim(MAX)", x.trim(Integer.MAX_VALUE), PowerBonds.BAD);
        DUE.due("bytes", x.count(6), 12);
        DUE.due("trim(12)", x.trim(12), 12);
        DUE.due("trim(5)", x.trim(5), 5);
        DUE.due("trim(6)", x.trim(6), PowerBonds.BAD);
        DUE.due("bytes", x.count(6), 5);
    }

    private static void fault(String told, int place) {
        PowerBonds x = new PowerBonds();
        DUE.due("text '" + told + "'", Tape.text(x, told), -100 - place);
        DUE.due("texts behind '" + told + "'", x.count(4), 0);
        DUE.due("tape behind '" + told + "'", x.count(6), 0);
    }

    private static void faults() {
        fault("", 0);
        fault("   ", 3);
        fault("give", 4);
        fault("give  ", 6);
        fault("gives 1 t", 0);
        fault("giv 1 t", 0);
        fault(" reads 1 t", 1);
        fault("Give 1 t", 0);
        fault("1 give t", 0);
        fault("give1 t", 4);
        fault("give 1t", 6);
        fault("give 1", 6);
        fault("give 1 ", 7);
        fault("give 12 t", 5);
        fault("read 12 t", 5);
        fault("give 00001 t", 5);
        fault("give 99999 t", 5);
        fault("give t t", 5);
        fault("give -1 t", 5);
        fault("give (1) t", 5);
        fault("give 1 -1", 7);
        fault("give 1 p", 7);
        fault("give 1 f", 7);
        fault("read 1 h", 7);
        fault("give 1 th", 7);
        fault("give 1 tz", 7);
        fault("give 1 at", 7);
        fault("live 1 t", 0);
        fault("lead 1 t", 0);
        fault("give 1 z", 7);
        fault("give 1 t h", 9);
        fault("give 1 2 3", 9);
        fault("give 1 2t", 8);
        fault("give 1 t2", 8);
        fault("give 1 12345", 7);
        fault("give 1 00000", 7);
        fault("give 1 t+", 9);
        fault("give 1 t+  ", 11);
        fault("give 1 t+*t", 9);
        fault("give 1 t!", 8);
        fault("give 1 t!t", 8);
        fault("give 1 !", 8);
        fault("give 1 ()", 8);
        fault("give 1 (t", 9);
        fault("give 1 (t ", 10);
        fault("give 1 t)", 8);
        fault("give 1 (t))", 10);
        fault("give 1 t(t)", 8);
        fault("give 1 (t)t", 10);
        fault("give 1 (t) 5", 11);
        fault("give 1 t<t<t", 10);
        fault("give 1 t=t>t", 10);
        fault("give 1 t<t|t<t=t", 14);
        fault("give 1 (t<t>1)", 11);
        fault("give 1 t==t", 9);
        fault("give 1 t<=t", 9);
        fault("give 1 t&&t", 9);
        fault("give 1 t\tt", 8);
        fault("give 1 t" + (char) 0, 8);
        fault("give\t1 t", 4);
        fault("give 1 " + (char) 255, 7);
        fault("give 1 t;", 8);
        fault("give 1 t%2", 8);
        fault("give 1 T", 7);
        fault("give give 1 t", 5);
        fault("give 1 give", 7);
    }

    private static void nested() {
        fault("give 1 " + "(".repeat(9) + "t" + ")".repeat(9), 15);
        fault("give 1 " + "!".repeat(9) + "t", 15);
        fault("give 1 " + "!(".repeat(8) + "!t", 23);
        fault("give 1 " + "(!".repeat(8) + "(", 23);
        fault("give 1 !!!!(!!!!t+!t)+!!!!!!!!t+!!!!!!!!!t", 40);
        fault("give 1 !!!!(!!!!(t)+!!!!(!t))", 25);
        String[] good = {"(".repeat(8) + "t" + ")".repeat(8), "!".repeat(8) + "t", "!(".repeat(8) + "t" + ")".repeat(8),
            "!!!!!!!!t+!!!!!!!!t", "((((((((t))))))))*((((((((t))))))))", "!!!!!!!((t)+!t)&!!!!!!!!(t)", "!(!t)+!(!t)+!(!t)+!(!t)+!(!t)"};
        for (String told : good) {
            DUE.due("text '" + told + "'", Tape.text(new PowerBonds(), "give 1 " + told), 0);
        }
    }

    private static void good(String told, int key, int of, int operands) {
        PowerBonds x = new PowerBonds();
        DUE.due("text '" + told + "'", Tape.text(x, told), 0);
        DUE.due("its tape", x.count(6), 0);
        DUE.due("key of '" + told + "'", x.textTold(0, 0), key);
        DUE.due("of of '" + told + "'", x.textTold(0, 1), of);
        DUE.due("operands of '" + told + "'", x.textTold(0, 2), operands);
        for (int what : new int[] {-1, 3, Integer.MIN_VALUE, Integer.MAX_VALUE}) {
            DUE.due("textTold(0, " + what + ")", x.textTold(0, what), PowerBonds.BAD);
        }
        DUE.due("textTold(1, 0)", x.textTold(1, 0), PowerBonds.BAD);
        DUE.due("textTold(-1, 0)", x.textTold(-1, 0), PowerBonds.BAD);
    }

    private static void goodTexts() {
        good("give 0 t", 0, 0, 1);
        good("  give   11   t  ", 0, 11, 1);
        good("read 0011 9999", 1, 11, 1);
        good("give 0(t)", 0, 0, 1);
        good("read 3!p", 1, 3, 1);
        good("read 1 t+p*f-2/3<1|0&1", 1, 1, 8);
        good("give 1 ( t + h ) * ( 1 )", 0, 1, 3);
        good("give 1 t<1&t>1|t=1", 0, 1, 6);
        good("give 1 (t<1)<(2<3)", 0, 1, 4);
        good("give 0 " + "1+".repeat(44) + "1", 0, 0, 45);
    }

    private static void full() {
        PowerBonds x = new PowerBonds();
        x.part(3, 0, 11);
        for (int i = 0; i < 14; i++) {
            DUE.due("text " + i, Tape.text(x, "give 0 " + i), i);
        }
        DUE.due("a fault ahead of FULL", Tape.text(x, "give 0 +"), -107);
        DUE.due("FULL", Tape.text(x, "give 0 99"), PowerBonds.FULL);
        DUE.due("FULL uses the tape up", x.count(6), 0);
        DUE.due("FULL changes nothing", x.told(0, 3), 13);
        DUE.due("texts", x.count(4), 14);
        DUE.due("that counts", x.why(0, 0), 13);
        DUE.due("textTold(14, 0)", x.textTold(14, 0), PowerBonds.BAD);
    }

    /** What an expression gives, as a reading of bond 0 with push 12 and pace 4 at step 2. */
    private static void gives(String told, int want) {
        PowerBonds x = new PowerBonds();
        x.part(3, 0, 11);
        x.part(2, 0, 31);
        x.bond(0, 1);
        x.set(0, 3, 12);
        x.run(2);
        DUE.due("text '" + told + "'", Tape.text(x, "read 0 " + told), 0);
        DUE.due("read '" + told + "'", x.read(0), want);
    }

    private static void worked() {
        gives("t", 2);
        gives("p", 12);
        gives("f", 4);
        gives("0042", 42);
        gives("2+3*4", 14);
        gives("(2+3)*4", 20);
        gives("20-5-3", 12);
        gives("100/7/2", 7);
        gives("100/7*7", 98);
        gives("2*7/4", 3);
        gives("(0-7)/2", -3);
        gives("7/(0-2)", -3);
        gives("7/0", 0);
        gives("0/0", 0);
        gives("(0-7)/0", 0);
        gives("9999*9999*9999*9999", 9999 * 9999 * 9999 * 9999);
        gives("9999*9999*22-9999*9999*22*2", 9999 * 9999 * 22 - 9999 * 9999 * 22 * 2);
        gives("(256*256*256*128)/(0-1)", Integer.MIN_VALUE);
        gives("1<2", 1);
        gives("2<1", 0);
        gives("2<2", 0);
        gives("2>1", 1);
        gives("2>2", 0);
        gives("1&1", 1);
        gives("0&1", 0);
        gives("1|1", 1);
        gives("1>2", 0);
        gives("2=2", 1);
        gives("2=1", 0);
        gives("1+1=2", 1);
        gives("1+(1=2)", 1);
        gives("5&7", 1);
        gives("5&0", 0);
        gives("0|7", 1);
        gives("0|0", 0);
        gives("(0-1)|0", 1);
        gives("1|0&0", 1);
        gives("(1|0)&0", 0);
        gives("0=0&0=1", 0);
        gives("!5", 0);
        gives("!0", 1);
        gives("!!5", 1);
        gives("!0+1", 2);
        gives("!(0+1)", 0);
        gives("!0*3", 3);
        gives("3-!1", 3);
        gives("(1<2)=1", 1);
        gives("t*p-f/3", 23);
    }

    private static void counting() {
        PowerBonds x = new PowerBonds();
        Tape.text(x, "give 3 1");
        Tape.text(x, "read 3 2");
        Tape.text(x, "give 4 3");
        Tape.text(x, "give 3 4");
        DUE.due("why(0, 3)", x.why(0, 3), 3);
        DUE.due("why(1, 3)", x.why(1, 3), 1);
        DUE.due("why(0, 4)", x.why(0, 4), 2);
        DUE.due("why(1, 4)", x.why(1, 4), PowerBonds.NONE);
        DUE.due("why(0, 11)", x.why(0, 11), PowerBonds.NONE);
        int[][] bad = {{-1, 0}, {2, 0}, {0, -1}, {0, 12}, {1, -1}, {1, 12}, {Integer.MIN_VALUE, 0}, {0, Integer.MAX_VALUE}};
        for (int[] b : bad) {
            DUE.due("why(" + b[0] + ", " + b[1] + ")", x.why(b[0], b[1]), PowerBonds.BAD);
        }
    }
}
