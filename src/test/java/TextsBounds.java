/** Boundary cases of promises 16, 17 and 18. */
final class TextsBounds {
    private static final int MIN = Bounds.MIN, MAX = Bounds.MAX, BAD = Bounds.BAD, FULL = Bounds.FULL, NONE = Bounds.NONE;
    private static final int GIVE = Bounds.GIVE, LOSS = Bounds.LOSS;

    private TextsBounds() {
    }

    static void ask(Bounds b) {
        ends(b);
        keys(b);
        targets(b);
        digits(b);
        names(b);
        blanks(b);
        firstBytes(b);
        bytesBehindKey(b);
        bytesBehindTarget(b);
        bytesAsPiece(b);
        bytesBehindPiece(b);
        nested(b);
        nestedBangs(b);
        tests(b);
        usedUp(b);
        full(b);
        ints(b);
        truths(b);
        toldValues(b);
        toldNumbers(b);
        whyValues(b);
        whyLast(b);
    }

    private static void fault(Bounds b, String told, int place) {
        b.due("'" + told + "'", Tape.text(new PowerBonds(), told), -100 - place);
    }

    private static void taken(Bounds b, String... all) {
        for (String told : all) {
            b.due("'" + told + "'", Tape.text(new PowerBonds(), told), 0);
        }
    }

    private static void ends(Bounds b) {
        b.promise(16, "the end (the place behind the last byte, blanks, too), if it comes too soon");
        String whole = "give 11 (t+!9999)*(h)";
        for (int i = 0; i <= whole.length(); i++) {
            String told = whole.substring(0, i);
            boolean cutWord = i > 0 && i < 4;
            boolean good = told.equals("give 11 (t+!9999)") || told.equals(whole) || told.matches("give 11 \\(t\\+!9{1,4}\\)");
            if (good) {
                taken(b, told);
            } else {
                fault(b, told, cutWord ? 0 : i);
            }
        }
        for (int blanks = 0; blanks <= 96; blanks++) {
            fault(b, " ".repeat(blanks), blanks);
        }
        fault(b, "give 0 t+" + " ".repeat(87), 96);
        fault(b, "give 0" + " ".repeat(90), 96);
        b.promise(16, "THE TAPE, 96 bytes at most");
        taken(b, "give 0 t" + " ".repeat(88), " ".repeat(88) + "give 0 t", "give 0 " + "1+".repeat(44) + "1");
    }

    private static void keys(Bounds b) {
        b.promise(16, "give P E | read B E: the first word");
        for (String word : new String[] {"giv", "gives", "gave", "givf", "hive", "rea", "reads", "reae", "lead", "giveread", "t", "g"}) {
            fault(b, word + " 1 t", 0);
            fault(b, "   " + word, 3);
        }
        fault(b, "GIVE 1 t", 0);
        fault(b, "1 t", 0);
        fault(b, "(give 1 t)", 0);
        fault(b, "give read 1 t", 5);
        fault(b, "read give 1 t", 5);
        taken(b, "give 1 t", "read 1 t");
    }

    private static void targets(Bounds b) {
        b.promise(16, "P: a PART 0 .. 11, B: a BOND 0 .. 11, there or not; FAULT: a P or B above 11");
        for (int of = 0; of <= 130; of++) {
            for (String key : new String[] {"give ", "read "}) {
                if (of <= 11) {
                    taken(b, key + of + " t");
                } else {
                    fault(b, key + of + " t", 5);
                }
            }
        }
        taken(b, "give 00 t", "give 0000 t", "read 0011 t", "give 011 t");
        fault(b, "give 0012 t", 5);
        fault(b, "read 9999 t", 5);
        fault(b, "read 1011 t", 5);
        b.promise(16, "P: a NUMBER (1 to 4 digits)");
        fault(b, "give 00000 t", 5);
        fault(b, "give 00011 t", 5);
        fault(b, "read 4294967296 t", 5);
        fault(b, "read 4294967297 t", 5);
        fault(b, "give -1 t", 5);
        fault(b, "give h t", 5);
        fault(b, "give (1) t", 5);
        fault(b, "give !1 t", 5);
        fault(b, "give 1+1 t", 6);
        fault(b, "give 1 1 t", 9);
    }

    private static void digits(Bounds b) {
        b.promise(16, "NUMBER (1 to 4 digits); FAULT: a NUMBER of more than 4 digits");
        PowerBonds x = Bounds.parts(GIVE, 1);
        int[][] numbers = {{0, 0}, {9, 9}, {10, 10}, {99, 99}, {100, 100}, {999, 999}, {1000, 1000}, {9999, 9999}};
        for (int[] number : numbers) {
            Tape.text(x, "give 0 " + number[0]);
            b.due("give 0 " + number[0], x.told(0, 3), number[1]);
        }
        Tape.text(x, "give 0 0042");
        b.due("0 ahead of digits", x.told(0, 3), 42);
        Tape.text(x, "give 0 0000");
        b.due("four 0", x.told(0, 3), 0);
        fault(b, "give 0 10000", 7);
        fault(b, "give 0 00000", 7);
        fault(b, "give 0 00001", 7);
        fault(b, "give 0 t+99999", 9);
        fault(b, "give 0 " + "1".repeat(89), 7);
        fault(b, "give 0 9999 9", 12);
    }

    private static void names(Bounds b) {
        b.promise(16, "NAMES, each one letter: of give t, h; of read t, p, f");
        for (char letter = 'a'; letter <= 'z'; letter++) {
            if (letter == 't' || letter == 'h') {
                taken(b, "give 0 " + letter);
            } else {
                fault(b, "give 0 " + letter, 7);
            }
            if (letter == 't' || letter == 'p' || letter == 'f') {
                taken(b, "read 0 " + letter);
            } else {
                fault(b, "read 0 " + letter, 7);
            }
            fault(b, "give 0 t" + letter, 7);
            fault(b, "read 0 (" + letter + "t", 8);
        }
    }

    private static void blanks(Bounds b) {
        b.promise(16, "between words and signs, and at the ends, there may be blanks");
        taken(b, "give 0 t+1", "  give  0  t  +  1  ", "give 0(t+1)", "give 0!t", " read 0 ! ( t ) ", "give 0 !!t", "give 0(t)+(h)");
        b.promise(16, "a word right behind another one needs one");
        fault(b, "give0 t", 4);
        fault(b, "give 0t", 6);
        fault(b, "give 0 t1", 8);
        fault(b, "give 0 1t", 8);
        fault(b, "give 0 t+1h", 10);
        fault(b, "give 0 (t)1", 10);
        fault(b, "give 0 t12345", 8);
        fault(b, "give12345 t", 4);
        fault(b, "give 0h+", 6);
        b.promise(16, "a word behind another one, with a blank, where a sign is due");
        fault(b, "give 0 t h", 9);
        fault(b, "give 0 t  12345", 10);
        fault(b, "give 0 1 2", 9);
    }

    private static boolean isLetter(int sign) {
        return sign >= 'a' && sign <= 'z';
    }

    private static boolean isDigit(int sign) {
        return sign >= '0' && sign <= '9';
    }

    private static void firstBytes(Bounds b) {
        b.promise(16, "any other byte is a sign by itself: the first byte");
        for (int sign = 0; sign < 256; sign++) {
            if (sign == ' ') {
                taken(b, (char) sign + "give 1 t");
            } else {
                fault(b, (char) sign + "give 1 t", 0);
            }
        }
    }

    private static void bytesBehindKey(Bounds b) {
        b.promise(16, "any other byte is a sign by itself: right behind give");
        for (int sign = 0; sign < 256; sign++) {
            String told = "give" + (char) sign + "1 t";
            if (sign == ' ') {
                taken(b, told);
            } else {
                fault(b, told, isLetter(sign) ? 0 : 4);
            }
        }
    }

    private static void bytesBehindTarget(Bounds b) {
        b.promise(16, "any other byte is a sign by itself: right behind P");
        for (int sign = 0; sign < 256; sign++) {
            String told = "give 1" + (char) sign + "t";
            if (sign == ' ' || sign == '!') {
                taken(b, told);
            } else if (sign == '(') {
                fault(b, told, 8);
            } else if (isDigit(sign)) {
                fault(b, told, sign <= '1' ? 7 : 5);
            } else {
                fault(b, told, 6);
            }
        }
    }

    private static void bytesAsPiece(Bounds b) {
        b.promise(16, "PIECE: NUMBER | NAME | ! PIECE | ( E ): each byte where one is due");
        for (int sign = 0; sign < 256; sign++) {
            String told = "give 1 " + (char) sign;
            if (isDigit(sign) || sign == 't' || sign == 'h') {
                taken(b, told);
            } else {
                fault(b, told, sign == ' ' || sign == '!' || sign == '(' ? 8 : 7);
            }
        }
    }

    private static void bytesBehindPiece(Bounds b) {
        b.promise(16, "| & < = > + - * /: each byte behind a PIECE");
        for (int sign = 0; sign < 256; sign++) {
            boolean joins = "|&<=>+-*/".indexOf(sign) >= 0;
            String told = "give 1 (t)" + (char) sign;
            if (sign == ' ') {
                taken(b, told);
            } else {
                fault(b, told, joins ? 11 : 10);
            }
            if (joins) {
                taken(b, told + "1");
                fault(b, told + (char) sign + "1", 11);
            } else {
                fault(b, told + "1", sign == ' ' ? 11 : 10);
            }
        }
    }

    private static String open(int many) {
        return "give 1 " + "(".repeat(many) + "t" + ")".repeat(many);
    }

    private static void nested(Bounds b) {
        b.promise(16, "FAULT: the ninth ( that would be open within others");
        for (int many = 0; many <= 8; many++) {
            taken(b, open(many));
            if (many > 0) {
                fault(b, "give 1 " + "(".repeat(many) + "t" + ")".repeat(many - 1), 7 + 2 * many);
            }
            fault(b, open(many) + ")", 8 + 2 * many);
        }
        for (int many = 9; many <= 40; many++) {
            fault(b, open(many), 15);
        }
        fault(b, "give 1 " + "( ".repeat(9), 7 + 16);
        b.promise(16, "the ninth ( that is not open within eight others");
        taken(b, "give 1 ((((((((t))))))))+((((((((t))))))))", "give 1 (t)+(t)+(t)+(t)+(t)+(t)+(t)+(t)+(t)+(t)",
            "give 1 (((((((" + "(t)+(t)" + ")))))))");
        fault(b, "give 1 (((((((t)+((t", 20);
        fault(b, "give 1 (((((((t+(t", 18);
        fault(b, "give 1 (((((((t+((t", 17);
    }

    private static void nestedBangs(Bounds b) {
        b.promise(16, "FAULT: the ninth ! likewise");
        for (int many = 0; many <= 8; many++) {
            taken(b, "give 1 " + "!".repeat(many) + "t");
            fault(b, "give 1 " + "!".repeat(many) + "+", 7 + many);
        }
        for (int many = 9; many <= 40; many++) {
            fault(b, "give 1 " + "!".repeat(many) + "t", 15);
        }
        b.promise(16, "the ninth ! through ( ), too");
        taken(b, "give 1 !!!!(!!!!t)", "give 1 !(!(!(!(!(!(!(!(t))))))))", "give 1 !!!!!!!!(t+t)");
        fault(b, "give 1 !!!!(!!!!!t)", 16);
        fault(b, "give 1 !!!!!!!!(!t)", 16);
        fault(b, "give 1 !!!!!!!!(t+!t)", 18);
        fault(b, "give 1 !!!!!!!!(t+(!t))", 19);
        fault(b, "give 1 !(!(!(!(!(!(!(!(!t", 23);
        b.promise(16, "the ninth ! that is not within eight others");
        taken(b, "give 1 !!!!!!!!t+!!!!!!!!t", "give 1 !!!!!!!!(t)+!t", "give 1 !!!!!!!(t+!t)&!t", "give 1 !!!!(!!!!t+!!!!t)+!t");
        b.promise(16, "each by itself: eight ( and eight ! at once");
        taken(b, "give 1 !(!(!(!(!(!(!(!(t))))))))", "give 1 !!!!!!!!((((((((t))))))))", "give 1 ((((((((!!!!!!!!t))))))))");
        fault(b, "give 1 !!!!!!!!(((((((((t", 23);
        fault(b, "give 1 ((((((((!!!!!!!!!t", 23);
    }

    private static void tests(Bounds b) {
        b.promise(16, "TEST: SUM [ (< | = | >) SUM ]: one at most");
        for (String first : new String[] {"<", "=", ">"}) {
            taken(b, "give 1 t" + first + "1", "give 1 t" + first + "1&t" + first + "1|t" + first + "1", "give 1 (t" + first + "1)" + first + "1");
            for (String second : new String[] {"<", "=", ">"}) {
                fault(b, "give 1 t" + first + "1" + second + "1", 10);
                fault(b, "give 1 t" + first + "1+h*2" + second + "1", 14);
                fault(b, "give 1 t" + first + second + "1", 9);
                taken(b, "give 1 t" + first + "(1" + second + "1)");
            }
        }
    }

    private static void usedUp(Bounds b) {
        b.promise(16, "an act that reads it uses it up, whatever it answers");
        PowerBonds x = new PowerBonds();
        b.due("a TEXT", Tape.text(x, "give 0 t"), 0);
        b.due("bytes", x.count(6), 0);
        b.due("again", x.text(), -100);
        b.due("a FAULT", Tape.text(x, "give 0 t+"), -109);
        b.due("bytes", x.count(6), 0);
        b.due("again", x.text(), -100);
        b.promise(16, "a FAULT adds no TEXT and moves no GIVE");
        PowerBonds y = Bounds.parts(GIVE, 1);
        Tape.text(y, "give 0 5");
        b.due("a FAULT at the end", Tape.text(y, "give 0 7+"), -109);
        b.due("a FAULT at a word", Tape.text(y, "give 0 7 7"), -109);
        b.due("TEXTS", y.count(4), 1);
        b.due("HOLD", y.told(0, 3), 5);
        b.due("the TEXT that counts", y.why(0, 0), 0);
    }

    private static void full(Bounds b) {
        b.promise(16, "TEXTS, 14 at most, numbered from 0; FULL");
        PowerBonds x = Bounds.parts(GIVE, 1);
        for (int i = 0; i < 14; i++) {
            b.due("TEXT " + i, Tape.text(x, "give 0 " + i), i);
        }
        b.due("the fifteenth", Tape.text(x, "give 0 99"), FULL);
        b.due("bytes: used up", x.count(6), 0);
        b.due("TEXTS", x.count(4), 14);
        b.due("HOLD stays", x.told(0, 3), 13);
        b.due("the TEXT that counts", x.why(0, 0), 13);
        b.promise(16, "the FAULT stands ahead of FULL");
        b.due("of nothing", x.text(), -100);
        b.due("at a word", Tape.text(x, "give 12 t"), -105);
        b.promise(16, "FULL again, with room again behind back()");
        PowerBonds y = new PowerBonds();
        y.keep();
        for (int i = 0; i < 14; i++) {
            Tape.text(y, "read 0 " + i);
        }
        b.due("the fifteenth", Tape.text(y, "read 0 1"), FULL);
        y.back();
        b.due("the first again", Tape.text(y, "read 3 1"), 0);
        b.due("its BOND", y.textTold(0, 1), 3);
    }

    /** What an E gives as a reading with PUSH 1000002 and PACE 0 at STEP 0. */
    private static void gives(Bounds b, String told, int want) {
        PowerBonds x = Bounds.pair(GIVE, 0, GIVE, 1);
        x.set(0, 3, -1);
        b.due("'" + told + "' is a TEXT", Tape.text(x, "read 0 " + told), 0);
        b.due("'" + told + "'", x.read(0), want);
    }

    private static void ints(Bounds b) {
        b.promise(16, "ints wrap");
        String largest = "(256*256*256*128-1)";
        String smallest = "(256*256*256*128)";
        gives(b, largest, MAX);
        gives(b, smallest, MIN);
        gives(b, largest + "+1", MIN);
        gives(b, smallest + "-1", MAX);
        gives(b, "0-" + smallest, MIN);
        gives(b, largest + "*2", -2);
        gives(b, smallest + "*2", 0);
        gives(b, largest + "*" + largest, 1);
        gives(b, "p*p", 1000002 * 1000002);
        b.promise(16, "/ is 0 by 0, cut");
        gives(b, "7/0", 0);
        gives(b, "0/0", 0);
        gives(b, smallest + "/f", 0);
        gives(b, "7/2", 3);
        gives(b, "(0-7)/2", -3);
        gives(b, "7/(0-2)", -3);
        gives(b, "(0-7)/(0-2)", 3);
        gives(b, "1/2", 0);
        gives(b, "(0-1)/2", 0);
        gives(b, smallest + "/(0-1)", MIN);
        gives(b, largest + "/" + smallest, 0);
        gives(b, "100/7/2", 7);
        gives(b, "7*3/2", 10);
        gives(b, "7/2*3", 9);
    }

    private static void truths(Bounds b) {
        b.promise(16, "tests, & | ! give 1 or 0 (what is not 0 is true)");
        gives(b, "1<1", 0);
        gives(b, "0<1", 1);
        gives(b, "1<0", 0);
        gives(b, "0>1", 0);
        gives(b, "(0-1)<0", 1);
        gives(b, "1>1", 0);
        gives(b, "1>0", 1);
        gives(b, "1=1", 1);
        gives(b, "p=1000", 0);
        gives(b, "(256*256*256*128)<(256*256*256*128-1)", 1);
        gives(b, "(256*256*256*128)>0", 0);
        gives(b, "7&9", 1);
        gives(b, "7&0", 0);
        gives(b, "1&2", 1);
        gives(b, "(0-1)&1", 1);
        gives(b, "0|0", 0);
        gives(b, "0|9", 1);
        gives(b, "(0-9)|0", 1);
        gives(b, "(256*256*256*128)|0", 1);
        gives(b, "!0", 1);
        gives(b, "!1", 0);
        gives(b, "!9", 0);
        gives(b, "!(0-1)", 0);
        gives(b, "!!9", 1);
        gives(b, "!!!!!!!!9", 1);
        gives(b, "!f+!f", 2);
        b.promise(16, "the loosest first: | & test + *");
        gives(b, "1|1&0", 1);
        gives(b, "(1|1)&0", 0);
        gives(b, "1&2=2", 1);
        gives(b, "(1&2)=2", 0);
        gives(b, "1+1<1+2", 1);
        gives(b, "1+(1<1)+2", 3);
        gives(b, "2+3*4", 14);
        gives(b, "9-3-2", 4);
        gives(b, "!1*5", 0);
        gives(b, "!0*5", 5);
    }

    private static void toldValues(Bounds b) {
        b.promise(17, "BAD: a TEXT that is not there, or another what");
        PowerBonds x = new PowerBonds();
        b.each("textTold(text, 0) of none", text -> x.textTold(text, 0), BAD, -1, 0, 1, 13, 14, MIN, MAX);
        for (int i = 0; i < 14; i++) {
            b.due("textTold(" + i + ", 0) ahead of it", x.textTold(i, 0), BAD);
            Tape.text(x, (i % 2 == 0 ? "give " : "read ") + i % 12 + " t");
            b.due("textTold(" + i + ", 0)", x.textTold(i, 0), i % 2);
            b.due("textTold(" + i + ", 1)", x.textTold(i, 1), i % 12);
        }
        b.within("textTold(text, 1) of fourteen", text -> x.textTold(text, 1), 0, 13, BAD);
        b.within("textTold(13, what)", what -> x.textTold(13, what), 0, 2, BAD);
        b.within("textTold(0, what)", what -> x.textTold(0, what), 0, 2, BAD);
    }

    private static void toldNumbers(Bounds b) {
        b.promise(17, "2 how many NUMBERS and NAMES it has (that one not)");
        String[] told = {"give 0 0", "read 11 t", "give 0 1+h", "give 9 !!(1)", "read 0 p*f-t/2<3", "give 0 " + "1+".repeat(44) + "1",
            "read 0!" + "f|".repeat(44) + "p", "give 0 9999*9999"};
        int[] want = {1, 1, 2, 1, 5, 45, 45, 2};
        for (int i = 0; i < told.length; i++) {
            PowerBonds x = new PowerBonds();
            int text = Tape.text(x, told[i]);
            b.due("'" + told[i] + "'", text == 0 ? x.textTold(0, 2) : -1, want[i]);
        }
    }

    private static void whyValues(Bounds b) {
        b.promise(18, "a PART (key 0), a BOND (1)");
        PowerBonds x = new PowerBonds();
        b.within("why(key, 0)", key -> x.why(key, 0), 0, 1, BAD);
        b.promise(18, "0 .. 11, there or not");
        b.within("why(0, of)", of -> x.why(0, of), 0, 11, BAD);
        b.within("why(1, of)", of -> x.why(1, of), 0, 11, BAD);
        b.due("why(2, 12)", x.why(2, 12), BAD);
        b.promise(18, "NONE");
        b.each("why(0, of)", of -> x.why(0, of), NONE, 0, 5, 11);
        b.each("why(1, of)", of -> x.why(1, of), NONE, 0, 5, 11);
    }

    private static void whyLast(Bounds b) {
        b.promise(18, "that TEXT counts that was told last");
        PowerBonds x = Bounds.pair(GIVE, 0, LOSS, 0);
        Tape.text(x, "give 0 1");
        b.due("the first", x.why(0, 0), 0);
        b.due("of the BOND none", x.why(1, 0), NONE);
        Tape.text(x, "read 0 1");
        b.due("of the BOND the second", x.why(1, 0), 1);
        b.due("of the PART the first still", x.why(0, 0), 0);
        Tape.text(x, "give 11 1");
        Tape.text(x, "give 0 2");
        b.due("the last", x.why(0, 0), 3);
        b.due("of PART 11, not there", x.why(0, 11), 2);
        Tape.text(x, "give 0 2 2");
        b.due("a FAULT does not count", x.why(0, 0), 3);
        for (int i = 4; i < 14; i++) {
            Tape.text(x, "read 11 " + i);
        }
        b.due("the fourteenth", x.why(1, 11), 13);
        Tape.text(x, "give 0 3");
        b.due("FULL does not count", x.why(0, 0), 3);
        x.keep();
        x.breaks(0);
        b.due("whatever BONDS break", x.why(1, 0), 1);
    }
}
