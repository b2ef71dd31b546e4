/** Promises 18 and 19, and the grammar of the texts that load() opens (promise 2). */
public final class TextTest {
    private static final String TWO = "office replica 1 1; replica 2 2; ";
    private static final String[] DEEDS = {"least", "ties", "recounts", "call", "vote", "seal", "close", "break",
        "count", "recount", "give", "down", "up", "cut", "join"};

    private static final Check CHECK = new Check("TextTest");

    private TextTest() {
    }

    public static void main(String[] args) {
        append();
        truncate();
        appendBytes();
        blanks();
        starts();
        tokensThatCannotStand();
        deedsThatEndEarly();
        badBytes();
        longNumbers();
        ranges();
        howManyReplicas();
        refusedDeeds();
        theFirstError();
        everyDeed();
        theWholeBuffer();
        CHECK.end();
    }

    private static void error(String text, int position, int code) {
        SealedBallots x = new SealedBallots();
        CHECK.is("load() of \"" + text + "\"", Check.load(x, text), Check.error(position, code));
        CHECK.is("bytes after \"" + text + "\"", x.office(18), 0);
        CHECK.is("changes after \"" + text + "\"", x.office(17), 0);
        CHECK.is("replicas after \"" + text + "\"", x.office(0), 5);
    }

    /** The error is at the end of what stands ahead, whatever follows. */
    private static void errorBehind(String ahead, String rest, int code) {
        error(ahead + rest, ahead.length(), code);
    }

    private static void opens(String text, int replicas) {
        SealedBallots x = new SealedBallots();
        CHECK.is("load() of \"" + text + "\"", Check.load(x, text), replicas);
        CHECK.is("bytes after \"" + text + "\"", x.office(18), 0);
        CHECK.is("changes after \"" + text + "\"", x.office(17), 1);
    }

    private static void append() {
        SealedBallots x = new SealedBallots();
        for (int length = 20; length <= 600; length += 20) {
            CHECK.is("append", x.append(0x20202020, 0, 0, 0, 0), length);
        }
        CHECK.is("append to 600 bytes", x.append(0, 0, 0, 0, 0), -20);
        CHECK.is("bytes after it", x.office(18), 600);
        x.truncate(581);
        CHECK.is("append to 581 bytes", x.append(0, 0, 0, 0, 0), -20);
        CHECK.is("bytes after it", x.office(18), 581);
        x.truncate(580);
        CHECK.is("append to 580 bytes", x.append(0, 0, 0, 0, 0), 600);
        CHECK.is("append is no change", x.office(17), 0);
    }

    private static void truncate() {
        SealedBallots x = new SealedBallots();
        CHECK.throwsArgument("truncate(-1)", () -> x.truncate(-1));
        CHECK.throwsArgument("truncate(1) of nothing", () -> x.truncate(1));
        CHECK.is("truncate(0) of nothing", x.truncate(0), 0);
        x.append(0, 0, 0, 0, 0);
        CHECK.throwsArgument("truncate(21)", () -> x.truncate(21));
        CHECK.is("bytes after what threw", x.office(18), 20);
        CHECK.is("truncate(20)", x.truncate(20), 20);
        CHECK.is("truncate(7)", x.truncate(7), 7);
        CHECK.is("bytes after it", x.office(18), 7);
        CHECK.throwsArgument("truncate(8)", () -> x.truncate(8));
        CHECK.is("append after it", x.append(0, 0, 0, 0, 0), 27);
        CHECK.is("truncate is no change", x.office(17), 0);
    }

    /** The order of the bytes, and that what was cut off is gone. */
    private static void appendBytes() {
        SealedBallots x = new SealedBallots();
        x.append(four("offi"), four("ce r"), four("epli"), four("ca 1"), four(" 2; "));
        x.append(four("repl"), four("ica "), four("3 4;"), four("leas"), four("t 5;"));
        CHECK.is("load()", x.load(), 2);
        CHECK.is("AGE of 0", x.replica(0, 0), 1);
        CHECK.is("FRESH of 1", x.replica(1, 1), 4);
        CHECK.is("LEAST", x.office(2), 5);
        Check.type(x, TWO + "least 9;");
        x.truncate(TWO.length() + 5);
        x.append(four(" 4; "), four("    "), four("    "), four("    "), four("    "));
        CHECK.is("load() of a text that was cut", x.load(), 2);
        CHECK.is("LEAST of it", x.office(2), 4);
        Check.type(x, TWO);
        x.append(0x74696573, 0x20303BFF, 0, 0, 0);
        CHECK.is("load() of the byte 255", x.load(), Check.error(TWO.length() + 7, 1));
    }

    private static int four(String text) {
        return text.charAt(0) << 24 | text.charAt(1) << 16 | text.charAt(2) << 8 | text.charAt(3);
    }

    private static void blanks() {
        opens("office replica 1 1; replica 2 2;", 2);
        opens("office replica 1 1;replica 2 2;", 2);
        opens("  \n office\nreplica  1\n1 ;\n replica2 2;down 0;up 0;call0;give;\n\n", 2);
        opens("office replica 00001 00000; replica 099 0999;", 2);
        opens(TWO + "cut0 1;join0 1;", 2);
        error("officereplica 1 1; replica 2 2;", 0, 1);
        errorBehind("office replica 1 1; replica22", ";", 1);
        errorBehind(TWO + "call0", "give;", 1);
        errorBehind(TWO + "cut 01", ";", 1);
    }

    private static void starts() {
        error("", 0, 1);
        error("   ", 3, 1);
        error("\n", 1, 1);
        error(" offic replica 1 1; replica 2 2;", 1, 1);
        error("offices replica 1 1; replica 2 2;", 0, 1);
        error("replica 1 1; replica 2 2;", 0, 1);
        error(";", 0, 1);
        error("7 office", 0, 1);
        error("Office", 0, 1);
        errorBehind("office ", "office replica 1 1; replica 2 2;", 1);
    }

    private static void tokensThatCannotStand() {
        errorBehind("office ", "; replica 1 1; replica 2 2;", 1);
        errorBehind("office replica ", "; 1 1;", 1);
        errorBehind("office replica ", "one 1;", 1);
        errorBehind("office replica 1 ", "; replica 2 2;", 1);
        errorBehind("office replica 1 1 ", "1; replica 2 2;", 1);
        errorBehind("office replica 1 1 ", "replica 2 2;", 1);
        errorBehind("office replica 1 1; ", "; replica 2 2;", 1);
        errorBehind(TWO, ";", 1);
        errorBehind(TWO, "7;", 1);
        errorBehind(TWO, "calls 0;", 1);
        errorBehind(TWO, "cal 0;", 1);
        errorBehind(TWO, "chain 0;", 1);
        errorBehind(TWO, "xall 0;", 1);
        errorBehind(TWO, "callz 0;", 1);
        errorBehind(TWO, "calla 0;", 1);
        errorBehind(TWO + "down 0 ", "zzz;", 1);
        error("zffice replica 1 1; replica 2 2;", 0, 1);
        errorBehind(TWO + "down 0; ", "replica 3 3;", 1);
        errorBehind(TWO + "down 0; ", "office", 1);
        errorBehind(TWO + "down 0 ", "0;", 1);
        errorBehind(TWO + "down 0 ", "down 1;", 1);
        errorBehind(TWO + "give ", "0;", 1);
        errorBehind(TWO + "cut 0 ", ";", 1);
        errorBehind(TWO + "cut ", "cut 0 1;", 1);
        errorBehind(TWO + "vote 0 1 ", ";", 1);
        errorBehind(TWO + "down 0;", ";", 1);
    }

    private static void deedsThatEndEarly() {
        for (String text : new String[] {"office replica", "office replica 1", "office replica 1 1",
            "office replica 1 1 ", TWO + "down", TWO + "down 0", TWO + "down 0 ", TWO + "vote 0 1", TWO + "vote 0 1 7",
            TWO + "give", TWO + "give\n"}) {
            error(text, text.length(), 1);
        }
    }

    private static void badBytes() {
        for (int b = 0; b < 256; b++) {
            boolean isBlank = b == 32 || b == 10;
            boolean begins = b == ';' || b >= '0' && b <= '9' || b >= 'a' && b <= 'z';
            if (isBlank) {
                opens(TWO + (char) b + "down 0;", 2);
            } else if (!begins) {
                errorBehind(TWO, (char) b + "down 0;", 1);
                errorBehind(TWO + "down", (char) b + " 0;", 1);
                errorBehind(TWO + "down 0", (char) b + ";", 1);
            }
        }
    }

    private static void longNumbers() {
        errorBehind("office replica ", "000001 1;", 1);
        errorBehind("office replica ", "123456 1;", 1);
        errorBehind("office replica ", "99999 1;", 2);
        errorBehind(TWO + "down ", "000000;", 1);
        errorBehind(TWO + "down ", "00002;", 2);
        opens(TWO + "down 00001;", 2);
        errorBehind(TWO, "123456", 1);
        errorBehind(TWO + "down ", "9".repeat(200) + ";", 1);
        errorBehind(TWO + "down ", "4294967296;", 1);
    }

    private static void range(String ahead, int least, int greatest, String rest) {
        if (least > 0) {
            errorBehind(ahead, (least - 1) + rest, 2);
        }
        opens(ahead + least + rest, 2);
        opens(ahead + greatest + rest, 2);
        errorBehind(ahead, (greatest + 1) + rest, 2);
    }

    private static void ranges() {
        range("office replica ", 1, 99, " 1; replica 2 2;");
        range("office replica 1 ", 0, 999, "; replica 2 2;");
        range(TWO + "least ", 1, 9, ";");
        range(TWO + "ties ", 0, 1, ";");
        range(TWO + "recounts ", 0, 3, ";");
        range(TWO + "call ", 0, 1, ";");
        range(TWO + "call 0; vote ", 0, 1, " 0 0;");
        range(TWO + "call 0; vote 0 ", 0, 1, " 0;");
        range(TWO + "call 0; vote 0 0 ", 0, 999, ";");
        range(TWO + "call 0; seal ", 0, 1, " 0;");
        range(TWO + "call 0; seal 0 ", 0, 65535, ";");
        String closed = TWO + "call 0; vote 0 0 0; vote 1 0 0; close; ";
        range(closed + "break ", 0, 1, " 0 0;");
        range(closed + "break 0 ", 0, 1, " 0;");
        range(closed + "break 0 0 ", 0, 999, ";");
        range(closed + "break 0 0 0; break 1 0 0; ties 0; least 9; count; recount ", 0, 1, ";");
        range(TWO + "down ", 0, 1, ";");
        range(TWO + "down 0; down 1; up ", 0, 1, ";");
        errorBehind(TWO + "cut ", "2 0;", 2);
        errorBehind(TWO + "cut 0 ", "2;", 2);
        errorBehind(TWO + "join ", "2 0;", 2);
        errorBehind(TWO + "join 0 ", "2;", 2);
        errorBehind(TWO + "seal 0 ", "65536;", 2);
        errorBehind("office replica 1 1; replica 2 2; replica 3 3; down ", "3;", 2);
        opens("office replica 1 1; replica 2 2; replica 3 3; down 2;", 3);
    }

    private static void howManyReplicas() {
        error("office", 6, 3);
        error("office ", 7, 3);
        error("office replica 1 1;", 19, 3);
        error("office replica 1 1;\n ", 21, 3);
        for (String deed : DEEDS) {
            errorBehind("office ", deed, 3);
            errorBehind("office replica 1 1; ", deed + " 0 0 0;", 3);
        }
        errorBehind("office ", "7", 1);
        errorBehind("office ", "downs 0;", 1);
        errorBehind("office replica 1 1; ", "123456", 1);
        errorBehind("office replica 1 1; ", "office", 1);
        errorBehind("office replica 1 1; ", "?", 1);
        StringBuilder nine = new StringBuilder("office ");
        for (int r = 0; r < 9; r++) {
            nine.append("replica ").append(r + 1).append(" ").append(r).append("; ");
        }
        opens(nine + "down 8;", 9);
        errorBehind(nine + "down ", "9;", 2);
        errorBehind(nine.toString(), "replica 1 1;", 3);
        errorBehind(nine.toString(), "replica", 3);
        errorBehind(nine.toString(), "replicas", 1);
        errorBehind(nine.toString(), "replica 0 oops", 3);
    }

    private static void refused(String deeds) {
        errorBehind(TWO + deeds, ";", 4);
        errorBehind(TWO + deeds + " \n", "; down 0;", 4);
        errorBehind(TWO + deeds + " ", "down 0;", 1);
    }

    private static void refusedDeeds() {
        refused("call 0; call 0");
        refused("down 0; call 0");
        refused("down 0; call 1");
        refused("vote 0 0 0");
        refused("seal 0 0");
        refused("call 0; seal 0 0; seal 0 0");
        refused("call 0; down 1; vote 1 0 0");
        refused("close");
        refused("call 0; vote 0 0 0; close");
        refused("break 0 0 0");
        refused("count");
        refused("recount 0");
        refused("give");
        refused("up 0");
        refused("down 0; down 0");
        refused("join 0 1");
        refused("join 1 1");
        refused("cut 1 1");
        refused("cut 0 1; cut 1 0");
        errorBehind("office replica 1 1; replica 2 2; replica 3 3; down 2; call 0; seal 2 0", ";", 4);
        opens(TWO + "call 0; vote 0 0 0; vote 1 0 0; close; break 0 0 1; break 1 0 0; count;", 2);
    }

    private static void theFirstError() {
        errorBehind(TWO + "give", "; call 7; ?", 4);
        errorBehind(TWO + "call ", "7; give; ?", 2);
        errorBehind(TWO, "?; call 7; give;", 1);
        errorBehind("office replica ", "0 1000;", 2);
        errorBehind("office replica 1 ", "1000 ?", 2);
        errorBehind("office replica 1 1; ", "call 9;", 3);
    }

    /** Every word of a deed, seen by what it does. */
    private static void everyDeed() {
        SealedBallots x = Check.opened("office replica 9 3; replica 8 3; replica 7 3; least 3; ties 0; recounts 2; "
                + "cut 0 1; cut 1 2; join 2 1; down 0; down 1; up 1; call 2; seal 1 123; vote 2 1 45; ");
        CHECK.is("least", x.office(2), 3);
        CHECK.is("ties", x.office(3), 0);
        CHECK.is("recounts", x.office(4), 2);
        CHECK.isFalse("cut", x.isLinked(0, 1));
        CHECK.isTrue("join", x.isLinked(1, 2));
        CHECK.is("down and up", x.office(1), 2);
        CHECK.is("call", x.office(7), 2);
        CHECK.is("seal and vote", x.office(10), 2);
        CHECK.is("the NONCE of vote", x.nonceFor(2, 1), 45);
        CHECK.is("the number of seal", x.nonceFor(1, 1), -1);
        int number = x.sealFor(2, 77, 1);
        CHECK.is("the number of seal", Check.opened(TWO + "replica 3 3; call 0; seal 1 " + number + ";")
                .nonceFor(1, 2), 77);
        String counted = "office replica 9 3; replica 8 3; call 0; give; call 1; vote 0 1 45; vote 1 1 46; close; "
                + "break 0 1 45; break 1 1 45; least 1; count; ";
        SealedBallots y = Check.opened(counted);
        CHECK.is("the PHASE behind count", y.office(5), 3);
        CHECK.is("give, and the TERM", y.office(6), 2);
        CHECK.is("break", y.office(11), 1);
        CHECK.is("break with a wrong NONCE", y.office(12), 1);
        CHECK.is("count", y.outcome(0, 1), 1);
        SealedBallots z = Check.opened(counted + "recount 0;");
        CHECK.is("the PHASE behind recount", z.office(5), 2);
        CHECK.is("recount", z.office(13), 1);
        CHECK.is("sealed again", z.office(10), 1);
    }

    private static void theWholeBuffer() {
        StringBuilder text = new StringBuilder(TWO);
        while (text.length() + 8 <= 600) {
            text.append("ties 0;\n");
        }
        text.append(" ".repeat(600 - text.length()));
        opens(text.toString(), 2);
        text.setCharAt(599, '?');
        error(text.toString(), 599, 1);
        error(" ".repeat(600), 600, 1);
        error("a".repeat(600), 0, 1);
        errorBehind(TWO, "1".repeat(600 - TWO.length()), 1);
    }
}
