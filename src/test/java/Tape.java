/** Brings characters to THE TAPE of an object. */
final class Tape {
    private Tape() {
    }

    /** THE TAPE is just these bytes then. */
    static void lay(PowerBonds x, String told) {
        x.trim(0);
        for (int at = 0; at < told.length(); at += 12) {
            int[] numbers = new int[3];
            for (int i = 0; i < 12; i++) {
                int sign = at + i < told.length() ? told.charAt(at + i) : 'x';
                numbers[i / 4] = numbers[i / 4] << 8 | sign;
            }
            x.feed(numbers[0], numbers[1], numbers[2]);
        }
        x.trim(told.length());
    }

    static int text(PowerBonds x, String told) {
        lay(x, told);
        return x.text();
    }
}
