/** Promises 20 to 24: what there is. */
public final class NumbersTest {
    private static final String FOUR = "office replica 10 4; replica 20 3; replica 30 2; replica 40 1;";

    private static final Check CHECK = new Check("NumbersTest");

    private NumbersTest() {
    }

    public static void main(String[] args) {
        officeWithoutBallot();
        officeInEachPhase();
        officeRest();
        replica();
        replicaVotes();
        replicaReached();
        isLinked();
        outcome();
        outcomeBack();
        sealFor();
        CHECK.end();
    }

    private static void officeIs(String state, SealedBallots x, int... due) {
        for (int what = 0; what < due.length; what++) {
            CHECK.is(state + ": office(" + what + ")", x.office(what), due[what]);
        }
    }

    private static void officeWithoutBallot() {
        SealedBallots x = Check.opened(FOUR);
        officeIs("no ballot", x, 4, 4, 2, 1, 1, 0, -1, -1, -1, -1, 0, 0, 0, 0, 0, 0, 0, 1, 0);
        CHECK.throwsArgument("office(-1)", () -> x.office(-1));
        CHECK.throwsArgument("office(19)", () -> x.office(19));
        CHECK.throwsArgument("office(least int)", () -> x.office(Integer.MIN_VALUE));
        CHECK.throwsArgument("office(greatest int)", () -> x.office(Integer.MAX_VALUE));
    }

    private static void officeInEachPhase() {
        SealedBallots x = Check.opened(FOUR + "least 1; recounts 3; down 3; cut 0 1; call 2;");
        officeIs("sealing", x, 4, 3, 1, 1, 3, 1, 1, 2, 7, 2, 0, 0, 0, 0, 0, 1, 1, 1, 0);
        x.vote(0, 0, 7);
        x.vote(1, 0, 8);
        x.vote(2, 0, 9);
        officeIs("sealed", x, 4, 3, 1, 1, 3, 1, 1, 2, 7, 2, 3, 0, 0, 0, 0, 1, 1, 4, 0);
        x.close();
        officeIs("breaking", x, 4, 3, 1, 1, 3, 2, 1, 2, 7, 2, 3, 0, 0, 0, 0, 1, 1, 5, 0);
        x.breakSeal(0, 0, 7);
        x.breakSeal(1, 0, 7);
        officeIs("two broken", x, 4, 3, 1, 1, 3, 2, 1, 2, 7, 2, 1, 1, 1, 0, 0, 1, 1, 7, 0);
        x.breakSeal(2, 0, 9);
        x.count();
        officeIs("counted", x, 4, 3, 1, 1, 3, 3, 1, 2, 7, 2, 0, 2, 1, 0, 1, 1, 1, 9, 0);
        x.recount(1);
        officeIs("recounted", x, 4, 3, 1, 1, 3, 2, 1, 2, 7, 2, 1, 2, 0, 1, 0, 1, 1, 10, 0);
        x.giveUp();
        officeIs("given up", x, 4, 3, 1, 1, 3, 0, -1, -1, -1, -1, 0, 0, 0, 0, 0, 1, 1, 10, 0);
    }

    private static void officeRest() {
        StringBuilder nine = new StringBuilder("office ");
        for (int r = 0; r < 9; r++) {
            nine.append("replica 5 5; ");
        }
        SealedBallots x = Check.opened(nine + "call 8;");
        CHECK.is("the ROLL of nine", x.office(8), 511);
        CHECK.is("NEED of nine", x.office(9), 5);
        for (int a = 0, cut = 0; a < 9; a++) {
            for (int b = 0; b < a; b++) {
                x.setLink(a, b, false);
                cut++;
                CHECK.is("links cut", x.office(16), cut);
            }
        }
        SealedBallots y = Check.opened(FOUR + "cut 0 3; call 0; give; call 0; give; down 0;");
        CHECK.is("the greatest TERM of all, though its replicas are left out", y.office(15), 2);
        CHECK.is("the greatest TERM without that of 0", Check.opened(FOUR + "down 0; call 1;").office(15), 1);
        CHECK.is("NEED of two", Check.opened("office replica 1 1; replica 1 1; call 0;").office(9), 2);
        CHECK.is("NEED of three", Check.opened(FOUR + "down 0; call 1;").office(9), 2);
        CHECK.is("NEED of four", Check.opened(FOUR + "call 1;").office(9), 3);
    }

    private static void replica() {
        SealedBallots x = Check.opened("office replica 99 0; replica 1 999; replica 50 500; cut 0 2;");
        int[][] due = {{99, 0, 1, 0, -1, 2, -1, -1, 0, 0}, {1, 999, 1, 0, -1, 5, -1, -1, 0, 0},
            {50, 500, 1, 0, -1, 2, -1, -1, 0, 0}};
        for (int r = 0; r < 3; r++) {
            for (int what = 0; what <= 9; what++) {
                CHECK.is("replica(" + r + ", " + what + ")", x.replica(r, what), due[r][what]);
            }
        }
        x.setUp(1, false);
        CHECK.is("replica(1, 2)", x.replica(1, 2), 0);
        CHECK.is("replica(0, 5), linked with one down", x.replica(0, 5), 2);
        CHECK.throwsIndex("replica(3, 0)", () -> x.replica(3, 0));
        CHECK.throwsIndex("replica(-1, 0)", () -> x.replica(-1, 0));
        CHECK.throwsIndex("replica(3, 10)", () -> x.replica(3, 10));
        CHECK.throwsArgument("replica(0, 10)", () -> x.replica(0, 10));
        CHECK.throwsArgument("replica(0, -1)", () -> x.replica(0, -1));
        CHECK.throwsIndex("replica(least int, 0)", () -> x.replica(Integer.MIN_VALUE, 0));
    }

    private static void replicaVotes() {
        SealedBallots x = Check.opened(FOUR + "down 3; call 0; vote 0 0 1; vote 1 0 2;");
        int[] sealed = {1, 1, 0, -1};
        for (int r = 0; r < 4; r++) {
            CHECK.is("replica(" + r + ", 6)", x.replica(r, 6), sealed[r]);
            CHECK.is("replica(" + r + ", 7)", x.replica(r, 7), -1);
            CHECK.is("replica(" + r + ", 8)", x.replica(r, 8), 0);
        }
        x.vote(2, 1, 3);
        x.close();
        x.breakSeal(0, 0, 1);
        x.breakSeal(1, 0, 2);
        x.breakSeal(2, 0, 3);
        int[] broken = {2, 2, 3, -1};
        int[] found = {0, 0, 1, -1};
        int[] votes = {2, 0, 0, 0};
        for (int r = 0; r < 4; r++) {
            CHECK.is("replica(" + r + ", 6)", x.replica(r, 6), broken[r]);
            CHECK.is("replica(" + r + ", 7)", x.replica(r, 7), found[r]);
            CHECK.is("replica(" + r + ", 8)", x.replica(r, 8), votes[r]);
        }
        x.count();
        CHECK.is("replica(1, 4)", x.replica(1, 4), 0);
        CHECK.is("replica(3, 4)", x.replica(3, 4), -1);
        CHECK.is("replica(1, 3)", x.replica(1, 3), 1);
        CHECK.is("replica(3, 3)", x.replica(3, 3), 0);
        x.giveUp();
        for (int r = 0; r < 4; r++) {
            CHECK.is("replica(" + r + ", 6) without a ballot", x.replica(r, 6), -1);
            CHECK.is("replica(" + r + ", 7) without a ballot", x.replica(r, 7), -1);
            CHECK.is("replica(" + r + ", 8) without a ballot", x.replica(r, 8), 0);
        }
    }

    private static void replicaReached() {
        SealedBallots x = Check.opened(FOUR + "down 3; call 0; up 3; cut 0 1;");
        int[] due = {1, 0, 1, 1};
        for (int r = 0; r < 4; r++) {
            CHECK.is("replica(" + r + ", 9), the last one not on the ROLL", x.replica(r, 9), due[r]);
        }
        x.setUp(2, false);
        CHECK.is("replica(2, 9) of one down", x.replica(2, 9), 0);
        x.setUp(0, false);
        for (int r = 0; r < 4; r++) {
            CHECK.is("replica(" + r + ", 9) with the CALLER down", x.replica(r, 9), 0);
        }
        x.setUp(0, true);
        CHECK.is("replica(3, 9)", x.replica(3, 9), 1);
        x.giveUp();
        CHECK.is("replica(3, 9) without a ballot", x.replica(3, 9), 0);
    }

    private static void isLinked() {
        SealedBallots x = Check.opened(FOUR + "cut 1 3;");
        for (int a = 0; a < 4; a++) {
            for (int b = 0; b < 4; b++) {
                CHECK.is("isLinked(" + a + ", " + b + ")", x.isLinked(a, b) ? 1 : 0, a * b == 3 ? 0 : 1);
            }
        }
        x.setUp(0, false);
        CHECK.isTrue("isLinked(0, 1) with one down", x.isLinked(0, 1));
        CHECK.throwsIndex("isLinked(4, 0)", () -> x.isLinked(4, 0) ? 1 : 0);
        CHECK.throwsIndex("isLinked(0, 4)", () -> x.isLinked(0, 4) ? 1 : 0);
        CHECK.throwsIndex("isLinked(-1, 0)", () -> x.isLinked(-1, 0) ? 1 : 0);
        CHECK.throwsIndex("isLinked(0, -1)", () -> x.isLinked(0, -1) ? 1 : 0);
    }

    private static void outcomeIs(String state, SealedBallots x, int back, int... due) {
        for (int what = 0; what < due.length; what++) {
            CHECK.is(state + ": outcome(" + back + ", " + what + ")", x.outcome(back, what), due[what]);
        }
    }

    private static void outcome() {
        String tie = "call 0; vote 0 1 1; vote 1 0 1; vote 2 1 1; vote 3 0 1; close; break 0 1 1; break 1 0 1; "
                + "break 2 1 1; break 3 0 1; count;";
        String even = "office replica 10 0; replica 20 0; replica 30 0; replica 40 0;";
        outcomeIs("ahead by AGE", Check.opened(even + tie), 0, 1, 1, 2, 4, 0, 1);
        outcomeIs("TIES 0", Check.opened(even + "ties 0;" + tie), 0, 1, -1, 0, 4, 0, 0);
        outcomeIs("LEAST 3", Check.opened(even + "least 3;" + tie), 0, 1, -1, 0, 4, 0, 0);
        outcomeIs("ahead by number", Check.opened("office replica 9 0; replica 9 0; replica 9 0; replica 9 0;" + tie),
                0, 1, 0, 2, 4, 0, 1);
        outcomeIs("a wrong NONCE", Check.opened(even + tie.replace("break 3 0 1", "break 3 0 2")), 0, 1, 1, 2, 3, 1, 0);
        outcomeIs("all spoiled", Check.opened(even + tie.replace(" 1; break", " 2; break").replace("break 3 0 1",
                "break 3 0 2")), 0, 1, -1, 0, 0, 4, 0);
        SealedBallots x = Check.opened(even + "down 3;" + tie.replace("vote 3 0 1;", "").replace("break 3 0 1;", ""));
        outcomeIs("one not on the ROLL", x, 0, 1, 1, 2, 3, 0, 0);
    }

    private static void outcomeBack() {
        SealedBallots x = Check.opened("office replica 10 0; replica 20 0; call 0; vote 0 0 1; vote 1 0 1; close; "
                + "break 0 0 1; break 1 0 1; count; call 0; vote 0 1 1; vote 1 1 1; close; break 0 1 1; break 1 1 2; "
                + "count; ");
        outcomeIs("the latest", x, 0, 2, -1, 0, 1, 1, 0);
        outcomeIs("the one before", x, 1, 1, 0, 2, 2, 0, 0);
        outcomeIs("none", x, 2, -1, -1, -1, -1, -1, -1);
        outcomeIs("none", x, 12, -1, -1, -1, -1, -1, -1);
        outcomeIs("none", x, -1, -1, -1, -1, -1, -1, -1);
        outcomeIs("none", x, Integer.MAX_VALUE, -1, -1, -1, -1, -1, -1);
        outcomeIs("none", x, Integer.MIN_VALUE, -1, -1, -1, -1, -1, -1);
        CHECK.throwsArgument("outcome(0, 6)", () -> x.outcome(0, 6));
        CHECK.throwsArgument("outcome(0, -1)", () -> x.outcome(0, -1));
        CHECK.throwsArgument("outcome(9, 6), of none", () -> x.outcome(9, 6));
    }

    private static void sealFor() {
        SealedBallots x = new SealedBallots();
        CHECK.is("sealFor(2, 11, 1)", x.sealFor(2, 11, 1), 19987);
        CHECK.is("sealFor(4, 12, 1)", x.sealFor(4, 12, 1), 8460);
        CHECK.is("sealFor(0, 0, 0)", x.sealFor(0, 0, 0), 5 * 40503 % 65536);
        CHECK.is("sealFor(4, 999, 9999)", x.sealFor(4, 999, 9999), (31L * 4 + 17 * 999 + 7 * 9999 + 5) * 40503 % 65536);
        for (int term = 0; term <= 9999; term += 101) {
            CHECK.is("sealFor in TERM " + term, x.sealFor(3, term % 1000, term),
                    (31L * 3 + 17 * (term % 1000) + 7L * term + 5) * 40503 % 65536);
        }
        CHECK.throwsIndex("sealFor(5, -1, -1)", () -> x.sealFor(5, -1, -1));
        CHECK.throwsIndex("sealFor(-1, 0, 0)", () -> x.sealFor(-1, 0, 0));
        CHECK.throwsArgument("sealFor(0, -1, 0)", () -> x.sealFor(0, -1, 0));
        CHECK.throwsArgument("sealFor(0, 1000, 0)", () -> x.sealFor(0, 1000, 0));
        CHECK.throwsArgument("sealFor(0, 0, -1)", () -> x.sealFor(0, 0, -1));
        CHECK.throwsArgument("sealFor(0, 0, 10000)", () -> x.sealFor(0, 0, 10000));
    }
}
