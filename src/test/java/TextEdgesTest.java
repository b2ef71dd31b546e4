/**
 * The edges of "Terms, 4 TEXTS": the numbers of each deed at both ends in offices of 2 and of 9 replicas, numbers of 1
 * to 6 digits, tokens with and without blanks between them, each token left out or put twice, each code at its
 * position, two errors at once, and texts of up to 600 bytes.
 */
public final class TextEdgesTest {
    private static final String TWO = "office replica 1 1; replica 2 2; ";
    private static final String NINE = "office " + "replica 5 5; ".repeat(9);
    private static final int REPLICA = -1;
    private static final int[] ONE_REPLICA = {0, REPLICA};
    private static final int[] NONCE = {0, 999};
    /** A text with each deed in it, of which none is refused. */
    private static final String[] TOKENS = ("office replica 1 1 ; replica 1 1 ; least 1 ; ties 0 ; recounts 1 ; "
            + "cut 0 1 ; join 0 1 ; down 1 ; up 1 ; call 0 ; vote 0 1 1 ; seal 1 1 ; close ; break 0 1 1 ; "
            + "break 1 1 1 ; count ; recount 0 ; give ;").split(" ");

    private static final Check CHECK = new Check("TextEdgesTest");

    private TextEdgesTest() {
    }

    public static void main(String[] args) {
        numbersOfEachDeed();
        numbersOfAReplica();
        digits();
        refusalsAreNoErrorOfTheNumbers();
        tokensSideBySide();
        eachTokenMissing();
        eachTokenTwice();
        eachPrefix();
        twoErrors();
        fewerThanTwoAndTen();
        positionsBehindBlanks();
        fullBuffers();
        asManyDeedsAsFit();
        bytesOfAnAppend();
        inItsOrder();
        CHECK.end();
    }

    private static void loads(String text, int due) {
        SealedBallots x = new SealedBallots();
        CHECK.is("load() of \"" + text + "\"", Check.load(x, text), due);
        CHECK.is("bytes after \"" + text + "\"", x.office(18), 0);
        CHECK.is("replicas after \"" + text + "\"", x.office(0), due < 0 ? 5 : due);
        CHECK.is("changes after \"" + text + "\"", x.office(17), due < 0 ? 0 : 1);
    }

    /** The error stands where the second text begins. */
    private static void fails(String ahead, String rest, int code) {
        loads(ahead + rest, Check.error(ahead.length(), code));
    }

    /** "2 a number out of its range (R a replica)": each number of each deed, with the others within theirs. */
    private static void numbersOfEachDeed() {
        deed("least", new int[] {1, 9});
        deed("ties", new int[] {0, 1});
        deed("recounts", new int[] {0, 3});
        deed("call", ONE_REPLICA);
        deed("vote", ONE_REPLICA, ONE_REPLICA, NONCE);
        deed("seal", ONE_REPLICA, new int[] {0, 65535});
        deed("break", ONE_REPLICA, ONE_REPLICA, NONCE);
        deed("recount", ONE_REPLICA);
        deed("down", ONE_REPLICA);
        deed("up", ONE_REPLICA);
        deed("cut", ONE_REPLICA, ONE_REPLICA);
        deed("join", ONE_REPLICA, ONE_REPLICA);
    }

    private static void deed(String word, int[]... ranges) {
        for (String office : new String[] {TWO, NINE}) {
            int last = office.equals(TWO) ? 1 : 8;
            for (int i = 0; i < ranges.length; i++) {
                int least = ranges[i][0];
                int greatest = ranges[i][1] == REPLICA ? last : ranges[i][1];
                numberOfDeed(office + word, ranges, i, least, false);
                numberOfDeed(office + word, ranges, i, greatest, false);
                numberOfDeed(office + word, ranges, i, greatest + 1, true);
                numberOfDeed(office + word, ranges, i, 99999, true);
                if (least > 0) {
                    numberOfDeed(office + word, ranges, i, least - 1, true);
                }
            }
        }
    }

    /** The number at a place; within its range the text has no error, or one of the deed's refusal, later. */
    private static void numberOfDeed(String start, int[][] ranges, int place, int value, boolean isOut) {
        StringBuilder ahead = new StringBuilder(start + " ");
        for (int i = 0; i < place; i++) {
            ahead.append(ranges[i][0]).append(' ');
        }
        StringBuilder rest = new StringBuilder().append(value);
        for (int i = place + 1; i < ranges.length; i++) {
            rest.append(' ').append(ranges[i][0]);
        }
        if (isOut) {
            fails(ahead.toString(), rest + ";", 2);
            return;
        }
        int answer = Check.load(new SealedBallots(), ahead.toString() + rest + ";");
        boolean isRefused = answer == Check.error(ahead.length() + rest.length(), 4);
        CHECK.isTrue("\"" + ahead + rest + ";\" has no number out of its range", answer > 0 || isRefused);
    }

    /** "AGE (1 to 99)", "FRESH so far (0 to 999)", of the first replica and of the last one. */
    private static void numbersOfAReplica() {
        for (int others = 0; others <= 8; others += 8) {
            String ahead = "office " + "replica 5 5; ".repeat(others) + "replica ";
            String behind = others == 0 ? "; replica 5 5;" : ";";
            int due = others == 0 ? 2 : 9;
            loads(ahead + "1 0" + behind, due);
            loads(ahead + "99 999" + behind, due);
            fails(ahead, "0 0" + behind, 2);
            fails(ahead, "100 0" + behind, 2);
            fails(ahead, "99999 0" + behind, 2);
            fails(ahead + "1 ", "1000" + behind, 2);
            fails(ahead + "1 ", "99999" + behind, 2);
            fails(ahead, "0 1000" + behind, 2);
        }
    }

    /** "a number (a run of 1 to 5 digits)", "1 ... a run of more than 5 digits". */
    private static void digits() {
        for (int zeros = 0; zeros <= 8; zeros++) {
            String one = "0".repeat(zeros) + "1";
            if (zeros <= 4) {
                loads("office replica " + one + " " + one + "; replica 2 2;", 2);
                loads(TWO + "down " + one + ";", 2);
                loads(TWO + "call 0; seal 0 " + one + ";", 2);
            } else {
                fails("office replica ", one + " 1; replica 2 2;", 1);
                fails("office replica 1 ", one + "; replica 2 2;", 1);
                fails(TWO + "down ", one + ";", 1);
                fails(TWO + "call 0; seal 0 ", one + ";", 1);
            }
        }
        SealedBallots x = Check.opened("office replica 00012 00345; replica 00098 00007; call 1; seal 0 "
                + String.format("%05d", new SealedBallots().sealFor(0, 8, 1)) + ";");
        CHECK.is("AGE", x.replica(0, 0), 12);
        CHECK.is("FRESH", x.replica(0, 1), 345);
        CHECK.is("AGE of the other", x.replica(1, 0), 98);
        CHECK.is("FRESH of the other", x.replica(1, 1), 7);
        CHECK.is("the number of the seal", x.nonceFor(0, 0), 8);
        // a run that would be within the range if it wrapped around
        fails(TWO + "down ", "4294967297;", 1);
        fails(TWO + "down ", "18446744073709551617;", 1);
        fails(TWO, "123456;", 1);
        fails("", "123456", 1);
    }

    /** A number within its range, of a deed that is refused: the error is 4, at the semicolon. */
    private static void refusalsAreNoErrorOfTheNumbers() {
        fails(NINE + "call 0; seal 8 65535; seal 8 0", ";", 4);
        fails(NINE + "vote 8 8 999", ";", 4);
        fails(NINE + "break 8 8 999", ";", 4);
        fails(NINE + "recount 8", ";", 4);
        fails(NINE + "up 8", ";", 4);
        fails(NINE + "join 8 0", ";", 4);
        fails(NINE + "cut 8 8", ";", 4);
    }

    /** "they are needed only between two words and between two numbers". */
    private static void tokensSideBySide() {
        loads("office replica1 1;replica2 2;call0;vote0 1 7;vote1 1 7;close;break0 1 7;break1 1 8;count;recount0;give;",
                2);
        loads("office\nreplica1\n1;replica2\n2;least9;ties0;recounts3;cut0\n1;join0\n1;down0;up0;", 2);
        loads(" \n\n office \n replica \n 1 \n 1 \n ; \n replica \n 2 \n 2 \n ; \n least \n 1 \n ; \n ", 2);
        fails("", "officereplica 1 1; replica 2 2;", 1);
        fails("office replica 12", "; replica 2 2;", 1);
        fails(TWO, "givegive;", 1);
        fails(TWO + "cut 01", ";", 1);
        fails(TWO + "call 0; vote 0 ", "12;", 2);
    }

    private static boolean isNumber(String token) {
        return Character.isDigit(token.charAt(0));
    }

    /** The tokens from one place to another, with a blank behind each. */
    private static String tokens(int from, int to) {
        StringBuilder text = new StringBuilder();
        for (int i = from; i < to; i++) {
            text.append(TOKENS[i]).append(' ');
        }
        return text.toString();
    }

    private static int semicolonFrom(int i) {
        int at = i;
        while (!TOKENS[at].equals(";")) {
            at++;
        }
        return at;
    }

    /** "1 a token that cannot stand there": the one behind a word or a semicolon that is missing, or the semicolon. */
    private static void eachTokenMissing() {
        loads(tokens(0, TOKENS.length), 2);
        for (int i = 0; i < TOKENS.length - 1; i++) {
            int stands = isNumber(TOKENS[i]) ? semicolonFrom(i) : i + 1;
            fails(tokens(0, i) + tokens(i + 1, stands), tokens(stands, TOKENS.length), 1);
        }
        fails(tokens(0, TOKENS.length - 1), "", 1);
    }

    /** The second one of two words or semicolons; the last one of too many numbers. */
    private static void eachTokenTwice() {
        for (int i = 0; i < TOKENS.length; i++) {
            if (isNumber(TOKENS[i])) {
                int stands = semicolonFrom(i);
                fails(tokens(0, i) + tokens(i, i + 1) + tokens(i, stands - 1), tokens(stands - 1, TOKENS.length), 1);
            } else {
                fails(tokens(0, i + 1), tokens(i, TOKENS.length), 1);
            }
        }
    }

    /** "a text that ends too early (position: its length)", for a text that is cut off behind each of its bytes. */
    private static void eachPrefix() {
        String all = tokens(0, TOKENS.length);
        int token = 0;
        int start = 0;
        for (int length = 1; length <= all.length(); length++) {
            String text = all.substring(0, length);
            boolean isWhole = length >= start + TOKENS[token].length();
            boolean isSemicolon = TOKENS[token].equals(";");
            if (token == 0 && isWhole || token == 4 && isSemicolon) {
                fails(text, "", 3);
            } else if (isSemicolon) {
                loads(text, 2);
            } else if (isWhole || isNumber(TOKENS[token]) || text.endsWith(" recount")) {
                // "recount" is a whole word though "recounts" is not whole yet
                fails(text, "", 1);
            } else {
                fails(all.substring(0, start), all.substring(start, length), 1);
            }
            if (all.charAt(length - 1) == ' ') {
                token++;
                start = length;
            }
        }
    }

    /** "The error with the least position counts, of several at one position the one with the least code". */
    private static void twoErrors() {
        String[][] errors = {{"", "oops 1;", "1"}, {"down ", "2;", "2"}, {"give", ";", "4"}, {"down ", "123456;", "1"},
            {"call 0; call 0", ";", "4"}, {"least ", "0;", "2"}, {"up 0", ";", "4"}, {"", "!", "1"}};
        for (String[] first : errors) {
            fails(TWO + first[0], first[1], Integer.parseInt(first[2]));
            for (String[] second : errors) {
                fails(TWO + first[0], first[1] + second[0] + second[1], Integer.parseInt(first[2]));
            }
        }
        fails("office replica ", "100 1000; oops", 2);
        fails("office replica 1 ", "1000; oops", 2);
        fails("office replica 1 1", "! 1000; oops", 1);
        // one position, two codes: too many digits and out of range; refused and no semicolon; too few and no deed
        fails(TWO + "down ", "999999;", 1);
        fails(TWO + "give ", "give;", 1);
        fails(TWO + "give", "", 1);
        fails("office replica 1 1; ", "oops", 1);
        fails(TWO + "down 0; ", "replica 3 3;", 1);
        fails(NINE + "down 0; ", "replica 3 3;", 1);
    }

    /** "3 the word "replica" of a 10th one, and the first token behind the replicas if there are fewer than 2". */
    private static void fewerThanTwoAndTen() {
        for (int replicas = 0; replicas <= 1; replicas++) {
            String ahead = "office " + "replica 5 5; ".repeat(replicas);
            for (String deed : new String[] {"least", "ties", "recounts", "call", "vote", "seal", "close", "break",
                "count", "recount", "give", "down", "up", "cut", "join"}) {
                fails(ahead, deed, 3);
                fails(ahead, deed + ";", 3);
                fails(ahead + "\n ", deed + " 99999 ?", 3);
            }
            for (String other : new String[] {"5", ";", "office", "replicas", "giv", "gives", "123456", "?", "\t",
                "GIVE"}) {
                fails(ahead, other, 1);
                fails(ahead, other + " give;", 1);
            }
            fails(ahead, "", 3);
            fails(ahead + " \n\n", "", 3);
        }
        for (int replicas = 2; replicas <= 9; replicas++) {
            loads("office " + "replica 5 5; ".repeat(replicas), replicas);
            loads("office " + "replica 5 5; ".repeat(replicas) + "least 1;", replicas);
        }
        for (String rest : new String[] {"", " ", "?", " 0 0;", " 5 5;", " 5 5; give;", ";", "replica"}) {
            fails(NINE, "replica" + (rest.equals("replica") ? " " : "") + rest, 3);
        }
        fails(NINE, "replicareplica 5 5;", 1);
    }

    /** The position is that of the token's first byte, whatever stands ahead of it. */
    private static void positionsBehindBlanks() {
        for (String blanks : new String[] {"", " ", "\n", "  ", "\n\n", " \n \n "}) {
            fails(blanks, "", 1);
            fails(blanks, "oops", 1);
            fails(TWO + "down" + blanks + " ", "7;", 2);
            fails(TWO + "down 0" + blanks, "", 1);
            fails(TWO + "down 0" + blanks, "down 1;", 1);
            fails(TWO + "give" + blanks, ";", 4);
            fails(TWO + "give" + blanks, ";" + blanks + "down 0;", 4);
            fails("office replica 1 1;" + blanks, "least 1;", 3);
            fails("office replica 1 1;" + blanks, "", 3);
            fails(NINE + blanks, "replica 5 5;", 3);
            loads(TWO + blanks + "down 0" + blanks + ";" + blanks, 2);
        }
    }

    /** "All is done in its order": 114 deeds of 5 bytes each; the last one is done, and the last one can be refused. */
    private static void asManyDeedsAsFit() {
        String ahead = "office replica1 1;replica1 1;";
        String deeds = "down0;up0;".repeat(57);
        loads(ahead + deeds, 2);
        CHECK.is("up after the last deed", Check.opened(ahead + deeds).office(1), 2);
        CHECK.is("up ahead of the last deed", Check.opened(ahead + deeds.substring(0, 566)).office(1), 1);
        fails(ahead + deeds.substring(0, 566) + "up1", ";", 4);
        SealedBallots x = Check.opened(ahead + "call0;give;".repeat(51));
        CHECK.is("the greatest TERM of all", x.office(15), 51);
    }

    /** "The text buffer has at most 600 bytes": a text that fills it to its last byte, and one byte more. */
    private static void fullBuffers() {
        String blanks = " ".repeat(600 - TWO.length() - 8);
        loads(TWO + blanks + "least 1;", 2);
        loads(TWO + "least 1" + blanks + ";", 2);
        loads(" ".repeat(600 - TWO.length()) + TWO, 2);
        fails(TWO + blanks + "  least", "0", 2);
        fails(TWO + blanks + "  least1", "", 1);
        fails(TWO + blanks + "least 1", "!", 1);
        fails(TWO + blanks + "least 1 ", "", 1);
        fails(TWO + blanks + "   give", ";", 4);
        fails(TWO + blanks + "  down ", "2", 2);
        fails(" ".repeat(600), "", 1);
        fails(" ".repeat(599), "?", 1);
        fails("office" + " ".repeat(594), "", 3);
        fails("office" + " ".repeat(590), "give", 3);

        SealedBallots x = new SealedBallots();
        Check.type(x, TWO + blanks + "least 1;");
        CHECK.is("append to what is full", x.append(0x3F3F3F3F, 0x3F3F3F3F, 0x3F3F3F3F, 0x3F3F3F3F, 0x3F3F3F3F), -20);
        CHECK.is("bytes after it", x.office(18), 600);
        CHECK.is("load of what is as it was", x.load(), 2);
        Check.type(x, TWO + blanks + "least 1");
        CHECK.is("bytes of one less", x.office(18), 599);
        CHECK.is("append to one less", x.append(0x3B202020, 0, 0, 0, 0), -20);
        CHECK.is("bytes after it", x.office(18), 599);
        CHECK.is("load of what ends too early", x.load(), Check.error(599, 1));
    }

    /** "the four bytes of each parameter, the most significant byte first": each byte at each of the 20 places. */
    private static void bytesOfAnAppend() {
        int blanks = 0x20202020;
        for (int place = 0; place < 20; place++) {
            for (int b = 0; b < 256; b++) {
                int[] four = {blanks, blanks, blanks, blanks, blanks};
                int shift = 24 - 8 * (place % 4);
                four[place / 4] = blanks & ~(255 << shift) | b << shift;
                SealedBallots x = new SealedBallots();
                CHECK.is("append", x.append(four[0], four[1], four[2], four[3], four[4]), 20);
                boolean isBlank = b == 32 || b == 10;
                CHECK.is("load of the byte " + b + " at " + place, x.load(), Check.error(isBlank ? 20 : place, 1));
            }
        }
    }

    /** "All is done in its order." */
    private static void inItsOrder() {
        String votes = "call 0; vote 0 1 1; vote 1 1 1; close; break 0 1 1; break 1 1 1; ";
        CHECK.is("LEAST ahead of count", Check.opened(TWO + votes + "least 3; count;").outcome(0, 1), -1);
        CHECK.is("LEAST behind count", Check.opened(TWO + votes + "count; least 3;").outcome(0, 1), 1);
        CHECK.is("the later LEAST", Check.opened(TWO + "least 3; least 4;").office(2), 4);
        CHECK.is("down ahead of call", Check.load(new SealedBallots(), TWO + "down 1; call 0;"),
                Check.error(TWO.length() + 14, 4));
        CHECK.is("down behind call", Check.opened(TWO + "call 0; down 1;").office(8), 3);
        CHECK.is("a vote in the TERM 2", Check.opened(TWO + "call 0; give; call 0; vote 0 1 7;").nonceFor(0, 1), 7);
    }
}
