import java.util.ArrayDeque;
import java.util.ArrayList;
import java.util.Deque;
import java.util.List;
import java.util.Map;
import java.util.regex.Matcher;
import java.util.regex.Pattern;

/** A text of the model: told word by word by an automaton with a pile, worked out with two piles. */
final class ModelText {
    private static final Pattern WORD = Pattern.compile("[a-z]+|[0-9]+|[^ ]", Pattern.DOTALL);

    int key = -1;
    int of = -1;
    int operands;
    /** Below 0 if there is none. */
    int fault = -1;
    private final List<String> words = new ArrayList<>();

    // the automaton: whether a piece is due, how many ! wait right ahead of it, and for each ( the ! around it
    private boolean pieceDue = true;
    private int bangs;
    private boolean tested;
    private final Deque<int[]> open = new ArrayDeque<>();

    ModelText(String tape) {
        Matcher matcher = WORD.matcher(tape);
        int wordEnd = -1;
        int place = 0;
        while (fault < 0 && matcher.find()) {
            String word = matcher.group();
            boolean isWord = word.matches("[a-z0-9]+");
            if (isWord && wordEnd == matcher.start() || !takes(place, word)) {
                fault = matcher.start();
            }
            wordEnd = isWord ? matcher.end() : -1;
            place++;
        }
        if (fault < 0 && (place < 3 || pieceDue || !open.isEmpty())) {
            fault = tape.length();
        }
    }

    private boolean takes(int place, String word) {
        if (place == 0) {
            key = List.of("give", "read").indexOf(word);
            return key >= 0;
        }
        if (place == 1) {
            of = word.matches("[0-9]{1,4}") ? Integer.parseInt(word) : 99;
            return of <= 11;
        }
        words.add(word);
        return pieceDue ? takesPiece(word) : takesSign(word);
    }

    private boolean takesPiece(String word) {
        int around = bangs + (open.isEmpty() ? 0 : open.peek()[0]);
        switch (word) {
            case "!":
                bangs++;
                return around < 8;
            case "(":
                open.push(new int[] {around, tested ? 1 : 0});
                bangs = 0;
                tested = false;
                return open.size() <= 8;
            default:
                bangs = 0;
                pieceDue = false;
                operands++;
                return word.matches(key == 0 ? "[0-9]{1,4}|t|h" : "[0-9]{1,4}|t|p|f");
        }
    }

    private boolean takesSign(String word) {
        if (word.equals(")")) {
            if (open.isEmpty()) {
                return false;
            }
            tested = open.pop()[1] == 1;
            return true;
        }
        pieceDue = true;
        if ("<=>".contains(word)) {
            boolean first = !tested;
            tested = true;
            return first;
        }
        if ("|&".contains(word)) {
            tested = false;
            return true;
        }
        return "+-*/".contains(word);
    }

    int gives(Map<String, Integer> names) {
        Deque<Integer> values = new ArrayDeque<>();
        Deque<String> signs = new ArrayDeque<>();
        for (String word : words) {
            if (word.equals("(") || word.equals("!")) {
                signs.push(word);
            } else if (word.equals(")")) {
                workDown(values, signs, 0);
                signs.pop();
                workDown(values, signs, 6);
            } else if (strength(word) > 0) {
                workDown(values, signs, strength(word));
                signs.push(word);
            } else {
                values.push(names.containsKey(word) ? names.get(word) : Integer.valueOf(word));
                workDown(values, signs, 6);
            }
        }
        workDown(values, signs, 0);
        return values.pop();
    }

    private static int strength(String sign) {
        return switch (sign) {
            case "|" -> 1;
            case "&" -> 2;
            case "<", "=", ">" -> 3;
            case "+", "-" -> 4;
            case "*", "/" -> 5;
            case "!" -> 6;
            default -> 0;
        };
    }

    private static void workDown(Deque<Integer> values, Deque<String> signs, int least) {
        while (!signs.isEmpty() && !signs.peek().equals("(") && strength(signs.peek()) >= least) {
            String sign = signs.pop();
            int right = values.pop();
            values.push(sign.equals("!") ? (right == 0 ? 1 : 0) : join(sign, values.pop(), right));
        }
    }

    private static int join(String sign, int left, int right) {
        return switch (sign) {
            case "+" -> (int) ((long) left + right);
            case "-" -> (int) ((long) left - right);
            case "*" -> (int) ((long) left * right);
            case "/" -> right == 0 ? 0 : (int) ((long) left / right);
            case "<" -> Integer.compare(left, right) < 0 ? 1 : 0;
            case "=" -> Integer.compare(left, right) == 0 ? 1 : 0;
            case ">" -> Integer.compare(left, right) > 0 ? 1 : 0;
            case "&" -> left == 0 || right == 0 ? 0 : 1;
            default -> left == 0 && right == 0 ? 0 : 1;
        };
    }
}
