import java.util.NoSuchElementException;

/** Promises 1 to 17: a new object and the changes. */
public final class ChangesTest {
    private static final String NEW_OFFICE = "office replica 40 5; replica 30 7; replica 55 5; replica 55 2; "
            + "replica 20 9; cut 3 4; call 0; vote 0 2 11; vote 1 4 12; vote 2 2 13; vote 3 4 14;";
    private static final String THREE = "office replica 10 0; replica 20 0; replica 30 0;";
    private static final String FOUR = "office replica 10 0; replica 20 0; replica 30 0; replica 40 0;";

    private static final Check CHECK = new Check("ChangesTest");

    private ChangesTest() {
    }

    public static void main(String[] args) {
        newObject();
        load();
        call();
        callTerms();
        seal();
        vote();
        close();
        breakSeal();
        breakSealReasons();
        breakSealAsItIsThen();
        count();
        countTiesAndLeast();
        countUnreached();
        outcomesKept();
        recount();
        recountEffects();
        recountsLeft();
        giveUp();
        setUp();
        setUpLeaders();
        setLink();
        setFresh();
        set();
        undo();
        whatCanBeUndone();
        undoEachChange();
        keep();
        restore();
        CHECK.end();
    }

    /** Three replicas, the votes of all for replica 0, ready to be counted. */
    private static SealedBallots toCount(String before) {
        return Check.opened(THREE + before + "call 0; vote 0 0 1; vote 1 0 2; vote 2 0 3; close; break 0 0 1; "
                + "break 1 0 2; break 2 0 3;");
    }

    private static void newObject() {
        SealedBallots x = new SealedBallots();
        CHECK.isSame("a new object", Check.all(x), Check.all(Check.opened(NEW_OFFICE)));
        int[] due = {5, 5, 2, 1, 1, 1, 1, 0, 31, 3, 4, 0, 0, 0, 0, 1, 1, 0, 0};
        for (int what = 0; what < due.length; what++) {
            CHECK.is("a new object's office(" + what + ")", x.office(what), due[what]);
        }
        int[] ages = {40, 30, 55, 55, 20};
        int[] fresh = {5, 7, 5, 2, 9};
        int[] candidates = {2, 4, 2, 4};
        for (int r = 0; r < 5; r++) {
            CHECK.is("a new object's AGE of " + r, x.replica(r, 0), ages[r]);
            CHECK.is("a new object's FRESH of " + r, x.replica(r, 1), fresh[r]);
            CHECK.is("a new object's vote of " + r, x.replica(r, 6), r == 4 ? 0 : 1);
        }
        for (int voter = 0; voter < 4; voter++) {
            CHECK.is("a new object's nonceFor", x.nonceFor(voter, candidates[voter]), 11 + voter);
        }
        CHECK.isFalse("a new object's link 3 4", x.isLinked(3, 4));
        CHECK.is("a new object's undo", x.undo(), -1);
        CHECK.is("a new object's report", x.reportByte(0), -1);
        CHECK.doesThrow("a new object's restore(0)", NoSuchElementException.class, () -> x.restore(0));
        CHECK.doesThrow("a new object's restore(1)", NoSuchElementException.class, () -> x.restore(1));
    }

    private static void load() {
        SealedBallots x = new SealedBallots();
        x.keep(1);
        x.writeVotes();
        x.set(0, 5);
        Check.type(x, FOUR + "down 1;");
        CHECK.is("load()", x.load(), 4);
        CHECK.is("bytes after a load", x.office(18), 0);
        CHECK.is("LEAST after a load", x.office(2), 2);
        CHECK.is("PHASE after a load", x.office(5), 0);
        CHECK.is("TERMs after a load", x.office(15), 0);
        CHECK.is("links cut after a load", x.office(16), 0);
        CHECK.is("up after a load", x.office(1), 3);
        CHECK.is("AGE after a load", x.replica(3, 0), 40);
        CHECK.is("a load is a change", x.office(17), 2);
        CHECK.is("the report after a load", x.reportByte(0), '#');
        String before = Check.all(x);
        Check.type(x, "office replica 1 1; oops");
        CHECK.is("load() of an error", x.load(), Check.error(20, 1));
        CHECK.is("bytes after an error", x.office(18), 0);
        CHECK.isSame("all after an error", Check.all(x), before);
        CHECK.is("an error is no change", x.office(17), 2);
        CHECK.is("a load undone", x.undo(), 1);
        CHECK.is("replicas after a load undone", x.office(0), 5);
        CHECK.is("LEAST after a load undone", x.office(2), 5);
        CHECK.is("slots after a load", x.restore(1), 5);
        CHECK.is("LEAST of the slot", x.office(2), 2);
        SealedBallots counted = toCount("");
        counted.count();
        Check.load(counted, THREE);
        CHECK.is("outcomes after a load", counted.office(14), 0);
        CHECK.is("the LEADER after a load", counted.replica(0, 4), -1);
        CHECK.is("the empty buffer's load()", counted.load(), -31);
        loadAfterAnother();
    }

    /** Nothing of what was opened before is left, neither of a whole text nor of one with an error. */
    private static void loadAfterAnother() {
        String counts = "call 0; vote 0 0 1; vote 1 0 2; vote 2 0 3; close; break 0 0 1; break 1 0 2; break 2 0 3; "
                + "count;";
        for (String last : new String[] {"", " give;", " oops"}) {
            SealedBallots x = new SealedBallots();
            Check.load(x, FOUR + "least 1; ties 0; recounts 3; cut 0 3; down 3;" + counts + last);
            CHECK.is("load() after another", Check.load(x, THREE + "down 1;"), 3);
            CHECK.isSame("all after another load", Check.all(x), Check.all(Check.opened(THREE + "down 1;")));
        }
        SealedBallots y = Check.opened("office" + " replica 5 5;".repeat(9));
        Check.load(y, THREE);
        CHECK.isSame("all after a load of fewer replicas", Check.all(y), Check.all(Check.opened(THREE)));
    }

    private static void call() {
        SealedBallots x = Check.opened(FOUR + "down 3; call 0;");
        CHECK.is("call in PHASE 1", x.call(1), -2);
        CHECK.is("call in PHASE 1, by one who is down", x.call(3), -2);
        x.vote(0, 0, 0);
        x.vote(1, 0, 0);
        x.close();
        CHECK.is("call in PHASE 2", x.call(1), -2);
        x.breakSeal(0, 0, 0);
        x.breakSeal(1, 0, 1);
        x.count();
        CHECK.is("call in PHASE 3, by one who is down", x.call(3), -3);
        CHECK.is("call in PHASE 3", x.call(1), 2);
        CHECK.is("the PHASE after a call", x.office(5), 1);
        CHECK.is("the CALLER", x.office(7), 1);
        CHECK.is("the ROLL", x.office(8), 7);
        CHECK.is("NEED", x.office(9), 2);
        CHECK.is("sealed votes after a call", x.office(10), 0);
        CHECK.is("valid votes after a call", x.office(11), 0);
        CHECK.is("spoiled votes after a call", x.office(12), 0);
        CHECK.is("the LEADER after a call", x.replica(0, 4), -1);
        CHECK.is("outcomes after a call", x.office(14), 1);
        CHECK.throwsIndex("call(-1)", () -> x.call(-1));
        CHECK.throwsIndex("call(4)", () -> x.call(4));

        SealedBallots half = Check.opened(FOUR + "down 2; down 3;");
        CHECK.is("call with half of all", half.call(0), -4);
        CHECK.is("call by one who is down, with half of all", half.call(3), -3);
        half.setUp(2, true);
        half.setLink(0, 2, false);
        CHECK.is("call with half of all linked", half.call(0), -4);
        CHECK.is("call with more than half", half.call(1), 1);
        CHECK.is("a ROLL of all three", half.office(8), 7);
        SealedBallots two = Check.opened("office replica 1 0; replica 2 0; cut 0 1;");
        CHECK.is("call by one of two", two.call(1), -4);
        CHECK.is("changes of a refused call", two.office(17), 1);
    }

    private static void callTerms() {
        SealedBallots x = Check.opened(THREE + "cut 0 2; call 0; give; call 0; give;");
        CHECK.is("the TERM of one who was left out", x.replica(2, 3), 0);
        CHECK.is("the TERM of one on the ROLL", x.replica(1, 3), 2);
        CHECK.is("call by one who was left out", x.call(2), 3);
        CHECK.is("its TERM", x.replica(2, 3), 3);
        CHECK.is("the TERM of one on its ROLL", x.replica(1, 3), 3);
        CHECK.is("the TERM of one who is not", x.replica(0, 3), 2);
        CHECK.is("the ROLL of the one who was left out", x.office(8), 6);
        x.giveUp();
        x.setLink(0, 1, false);
        CHECK.is("a call that all miss", x.call(0), -4);

        for (int both = 0; both < 5; both++) {
            SealedBallots y = Check.opened("office" + " replica 5 5;".repeat(5));
            int[] others = {(both + 1) % 5, (both + 2) % 5, (both + 3) % 5, (both + 4) % 5};
            y.setUp(others[2], false);
            y.setUp(others[3], false);
            CHECK.is("call by " + both, y.call(both), 1);
            y.giveUp();
            y.setUp(others[0], false);
            y.setUp(others[1], false);
            y.setUp(others[2], true);
            y.setUp(others[3], true);
            CHECK.is("call, where " + both + " alone knows the TERM", y.call(others[2]), 2);
            CHECK.is("the greatest TERM of all", y.office(15), 2);
        }

        SealedBallots led = Check.opened(FOUR + "call 3; vote 0 0 1; vote 1 0 1; vote 2 0 1; vote 3 0 1; close; "
                + "break 0 0 1; break 1 0 1; break 2 0 1; break 3 0 1; count; cut 3 0;");
        CHECK.is("call by one of four", led.call(0), 2);
        CHECK.is("the LEADER of one on the ROLL", led.replica(1, 4), -1);
        CHECK.is("the LEADER of one who is not", led.replica(3, 4), 0);
        CHECK.is("recounts in a new TERM", led.office(13), 0);
    }

    private static void seal() {
        SealedBallots x = Check.opened(FOUR + "down 3;");
        CHECK.is("seal without a ballot", x.seal(0, 0), -5);
        CHECK.throwsIndex("seal(-1, 70000)", () -> x.seal(-1, 70000));
        CHECK.throwsIndex("seal(4, 0)", () -> x.seal(4, 0));
        CHECK.throwsArgument("seal(0, -1)", () -> x.seal(0, -1));
        CHECK.throwsArgument("seal(0, 65536)", () -> x.seal(0, 65536));
        x.call(0);
        CHECK.is("seal by one not on the ROLL", x.seal(3, 0), -6);
        CHECK.is("seal(0, 0)", x.seal(0, 0), 1);
        CHECK.is("seal(1, 65535)", x.seal(1, 65535), 2);
        CHECK.is("seal again", x.seal(0, 1), -7);
        x.setUp(0, false);
        CHECK.is("seal again, with the CALLER down", x.seal(0, 1), -7);
        CHECK.is("seal with the CALLER down", x.seal(2, 1), -8);
        x.setUp(0, true);
        x.setUp(3, true);
        CHECK.is("seal by one who came up", x.seal(3, 0), -6);
        x.setUp(2, false);
        CHECK.is("seal by one who is down", x.seal(2, 1), -8);
        x.setUp(2, true);
        x.setLink(0, 2, false);
        CHECK.is("seal by one who is cut off", x.seal(2, 1), -8);
        x.setLink(2, 0, true);
        CHECK.is("seal by one who is linked again", x.seal(2, 1), 3);
        x.close();
        CHECK.is("seal in PHASE 2", x.seal(3, 0), -5);
        CHECK.is("the vote's number fits", x.nonceFor(1, 0), fitting(65535, 0, 1));
    }

    /** The NONCE that fits a number, found by trying. */
    private static int fitting(int number, int candidate, int term) {
        for (int nonce = 0; nonce <= 999; nonce++) {
            if ((31L * candidate + 17L * nonce + 7L * term + 5) * 40503 % 65536 == number) {
                return nonce;
            }
        }
        return -1;
    }

    private static void vote() {
        SealedBallots x = Check.opened(FOUR + "down 3;");
        CHECK.is("vote without a ballot", x.vote(0, 0, 0), -5);
        CHECK.throwsIndex("vote(4, 0, 0)", () -> x.vote(4, 0, 0));
        CHECK.throwsIndex("vote(-1, 0, 0)", () -> x.vote(-1, 0, 0));
        CHECK.throwsIndex("vote(0, 4, 1000)", () -> x.vote(0, 4, 1000));
        CHECK.throwsIndex("vote(0, -1, -1)", () -> x.vote(0, -1, -1));
        CHECK.throwsArgument("vote(0, 0, -1)", () -> x.vote(0, 0, -1));
        CHECK.throwsArgument("vote(0, 0, 1000)", () -> x.vote(0, 0, 1000));
        x.call(0);
        CHECK.is("vote by one not on the ROLL", x.vote(3, 0, 0), -6);
        CHECK.is("vote(0, 1, 0)", x.vote(0, 1, 0), 1);
        CHECK.is("vote again", x.vote(0, 1, 0), -7);
        CHECK.is("vote(1, 3, 999) for one not on the ROLL", x.vote(1, 3, 999), 2);
        CHECK.is("the NONCE of a vote", x.nonceFor(0, 1), 0);
        CHECK.is("the greatest NONCE of a vote", x.nonceFor(1, 3), 999);
        x.setUp(2, false);
        CHECK.is("vote by one who is down", x.vote(2, 0, 0), -8);
        x.setUp(2, true);
        x.giveUp();
        x.call(0);
        x.vote(0, 1, 0);
        x.vote(1, 1, 0);
        x.close();
        CHECK.is("vote in PHASE 2", x.vote(2, 0, 0), -5);
        CHECK.is("a vote of TERM 2", x.breakSeal(0, 1, 0), 0);
    }

    private static void close() {
        SealedBallots x = Check.opened(FOUR);
        CHECK.is("close without a ballot", x.close(), -5);
        x.call(0);
        x.vote(0, 0, 0);
        x.vote(1, 0, 0);
        CHECK.is("close with half of four", x.close(), -9);
        x.vote(2, 0, 0);
        CHECK.is("close with NEED", x.close(), 3);
        CHECK.is("the PHASE", x.office(5), 2);
        CHECK.is("close in PHASE 2", x.close(), -5);
        SealedBallots three = Check.opened(THREE + "call 0; vote 0 0 0;");
        CHECK.is("close with one of three", three.close(), -9);
        CHECK.is("the PHASE after it", three.office(5), 1);
        three.vote(1, 0, 0);
        CHECK.is("close with two of three", three.close(), 2);
    }

    private static void breakSeal() {
        SealedBallots x = Check.opened(FOUR + "down 3; call 0; vote 0 1 5;");
        CHECK.is("breakSeal in PHASE 1", x.breakSeal(0, 1, 5), -10);
        CHECK.throwsIndex("breakSeal(4, 0, 0)", () -> x.breakSeal(4, 0, 0));
        CHECK.throwsIndex("breakSeal(0, 4, -1)", () -> x.breakSeal(0, 4, -1));
        CHECK.throwsIndex("breakSeal(-1, 0, 0)", () -> x.breakSeal(-1, 0, 0));
        CHECK.throwsIndex("breakSeal(0, -1, 0)", () -> x.breakSeal(0, -1, 0));
        CHECK.throwsArgument("breakSeal(0, 0, -1)", () -> x.breakSeal(0, 0, -1));
        CHECK.throwsArgument("breakSeal(0, 0, 1000)", () -> x.breakSeal(0, 0, 1000));
        x.vote(1, 1, 6);
        x.close();
        CHECK.is("breakSeal by one not on the ROLL", x.breakSeal(3, 1, 5), -6);
        CHECK.is("breakSeal of a vote not sealed", x.breakSeal(2, 1, 5), -11);
        CHECK.is("breakSeal", x.breakSeal(0, 1, 5), 0);
        CHECK.is("the vote", x.replica(0, 6), 2);
        CHECK.is("its candidate", x.replica(0, 7), 1);
        x.setUp(0, false);
        CHECK.is("breakSeal again, with the CALLER down", x.breakSeal(0, 1, 5), -11);
        CHECK.is("breakSeal with the CALLER down", x.breakSeal(1, 1, 6), -8);
        x.setUp(0, true);
        x.setUp(1, false);
        CHECK.is("breakSeal of one who is down", x.breakSeal(1, 1, 6), -8);
        x.setUp(1, true);
        x.setLink(1, 0, false);
        CHECK.is("breakSeal of one who is cut off", x.breakSeal(1, 1, 6), -8);
        x.setLink(1, 0, true);
        CHECK.is("breakSeal of one who is linked again", x.breakSeal(1, 1, 6), 0);
        x.count();
        CHECK.is("breakSeal in PHASE 3", x.breakSeal(2, 1, 5), -10);
        x.giveUp();
        CHECK.is("breakSeal without a ballot", x.breakSeal(2, 1, 5), -10);
    }

    private static void breakSealReasons() {
        String text = "office replica 10 5; replica 20 5; replica 30 4; replica 40 9; replica 50 9; replica 60 3; "
                + "down 5; call 0; vote 0 1 1; vote 1 2 2; vote 2 5 3; vote 3 3 4; vote 4 3 5; close; down 3; ";
        SealedBallots x = Check.opened(text);
        CHECK.is("a wrong NONCE", x.breakSeal(0, 1, 2), 1);
        CHECK.is("the vote that is spoiled", x.replica(0, 6), 3);
        CHECK.is("its reason", x.replica(0, 7), 1);
        CHECK.is("a candidate less FRESH", x.breakSeal(1, 2, 2), 3);
        CHECK.is("a candidate not on the ROLL, less FRESH too and down", x.breakSeal(2, 5, 3), 2);
        CHECK.is("a candidate who is down", x.breakSeal(4, 3, 5), 4);
        CHECK.is("the reason of the last", x.replica(4, 7), 4);
        CHECK.is("spoiled votes", x.office(12), 4);
        SealedBallots y = Check.opened(text);
        CHECK.is("a wrong candidate", y.breakSeal(0, 0, 1), 1);
        CHECK.is("a wrong NONCE for one not on the ROLL", y.breakSeal(2, 5, 4), 1);
        CHECK.is("less FRESH than the voter, and down", Check.opened(text + "up 3; down 2;").breakSeal(1, 2, 2), 3);
    }

    private static void breakSealAsItIsThen() {
        SealedBallots x = Check.opened(FOUR + "call 0; vote 0 3 1; vote 1 3 1; vote 2 3 1; vote 3 3 1; close;");
        CHECK.is("as FRESH as the voter", x.breakSeal(0, 3, 1), 0);
        x.setFresh(1, 1);
        CHECK.is("less FRESH by then", x.breakSeal(1, 3, 1), 3);
        x.setUp(3, false);
        CHECK.is("down by then", x.breakSeal(2, 3, 1), 4);
        x.setUp(3, true);
        x.setFresh(3, 2);
        CHECK.is("for itself", x.breakSeal(3, 3, 1), 0);
        CHECK.is("valid votes", x.replica(3, 8), 2);
    }

    private static void count() {
        SealedBallots x = Check.opened(THREE + "call 0; vote 0 1 1; vote 1 1 2;");
        CHECK.is("count in PHASE 1", x.count(), -10);
        x.close();
        CHECK.is("count with two seals unbroken", x.count(), -12);
        x.breakSeal(0, 1, 1);
        CHECK.is("count with one seal unbroken", x.count(), -12);
        x.breakSeal(1, 1, 2);
        CHECK.is("count", x.count(), 1);
        CHECK.is("the PHASE after a count", x.office(5), 3);
        CHECK.is("the LEADER of 0", x.replica(0, 4), 1);
        CHECK.is("the LEADER of one that has not voted", x.replica(2, 4), 1);
        CHECK.is("outcomes", x.office(14), 1);
        CHECK.is("count in PHASE 3", x.count(), -10);
        x.giveUp();
        CHECK.is("count without a ballot", x.count(), -10);
    }

    private static void countTiesAndLeast() {
        String votes = "call 0; vote 0 0 1; vote 1 1 2; vote 2 2 3; close; break 0 0 1; break 1 1 2; break 2 2 3;";
        CHECK.is("a tie, LEAST 2", Check.opened(THREE + votes).count(), 100);
        CHECK.is("a tie, LEAST 1", Check.opened(THREE + "least 1;" + votes).count(), 2);
        CHECK.is("a tie, TIES 0", Check.opened(THREE + "least 1; ties 0;" + votes).count(), 100);
        String even = "office replica 30 0; replica 30 0; replica 29 0; least 1;";
        CHECK.is("a tie of the same AGE", Check.opened(even + votes).count(), 0);
        SealedBallots x = toCount("least 3;");
        CHECK.is("as many votes as LEAST", x.count(), 0);
        SealedBallots y = toCount("least 4;");
        CHECK.is("one vote less than LEAST", y.count(), 100);
        CHECK.is("the LEADER is none", y.replica(1, 4), -1);
        CHECK.is("the outcome is kept", y.outcome(0, 3), 3);
        CHECK.is("nobody has votes", Check.opened(THREE + "least 1; call 0; vote 0 0 1; vote 1 0 1; close; "
                + "break 0 0 2; break 1 0 2;").count(), 100);
        CHECK.is("the most votes count, not AGE", Check.opened(THREE + "call 0; vote 0 0 1; vote 1 0 2; vote 2 2 3; "
                + "close; break 0 0 1; break 1 0 2; break 2 2 3;").count(), 0);
    }

    private static void countUnreached() {
        SealedBallots x = Check.opened(FOUR + "call 0; vote 0 1 1; vote 1 1 2; vote 2 1 3; vote 3 1 4; close; "
                + "break 0 1 1; break 1 1 2; cut 0 2; down 3;");
        CHECK.is("count without those not reached", x.count(), 1);
        CHECK.is("the LEADER of one reached", x.replica(0, 4), 1);
        CHECK.is("the LEADER of one cut off", x.replica(2, 4), -1);
        CHECK.is("the LEADER of one down", x.replica(3, 4), -1);
        CHECK.is("a vote not broken stays sealed", x.replica(2, 6), 1);
        SealedBallots y = Check.opened(THREE + "call 0; vote 0 1 1; vote 1 1 2; close; down 0;");
        CHECK.is("count with the CALLER down", y.count(), 100);
        SealedBallots z = Check.opened(FOUR + "down 3; call 0; vote 0 1 1; vote 1 1 2; close; break 0 1 1; "
                + "break 1 1 2; up 3; down 1;");
        CHECK.is("count for one who went down", z.count(), 1);
        CHECK.is("the LEADER of one not on the ROLL", z.replica(3, 4), -1);
        CHECK.is("the LEADER of one on the ROLL", z.replica(2, 4), 1);
    }

    private static void outcomesKept() {
        SealedBallots x = Check.opened("office replica 10 0; replica 20 0; least 1;");
        for (int round = 1; round <= 14; round++) {
            x.call(0);
            x.vote(0, 0, 0);
            x.vote(1, 0, 0);
            x.close();
            x.breakSeal(0, 0, 0);
            x.breakSeal(1, 0, 0);
            x.count();
            CHECK.is("outcomes after " + round, x.office(14), Math.min(round, 12));
            CHECK.is("the latest TERM", x.outcome(0, 0), round);
        }
        CHECK.is("the oldest TERM", x.outcome(11, 0), 3);
        CHECK.is("one older", x.outcome(12, 0), -1);
        x.undo();
        CHECK.is("the oldest TERM before", x.outcome(11, 0), 2);
        x.breakSeal(1, 0, 0);
        CHECK.is("count again", x.count(), 0);
        x.recount(1);
        CHECK.is("outcomes after a recount", x.office(14), 11);
        CHECK.is("the latest TERM after it", x.outcome(0, 0), 13);
        CHECK.is("the oldest TERM after it", x.outcome(10, 0), 3);
    }

    private static void recount() {
        SealedBallots x = toCount("recounts 1;");
        CHECK.is("recount in PHASE 2", x.recount(1), -13);
        CHECK.throwsIndex("recount(3)", () -> x.recount(3));
        CHECK.throwsIndex("recount(-1)", () -> x.recount(-1));
        x.count();
        CHECK.is("recount by the one who was chosen", x.recount(0), -15);
        x.setUp(0, false);
        CHECK.is("recount by one who was chosen and is down", x.recount(0), -3);
        CHECK.is("recount", x.recount(1), 0);
        CHECK.is("the PHASE", x.office(5), 2);
        CHECK.is("count again", x.count(), 0);
        CHECK.is("recount again", x.recount(1), -14);
        x.setUp(0, true);
        CHECK.is("recount again, by the one who was chosen", x.recount(0), -15);
        x.giveUp();
        CHECK.is("recount without a ballot", x.recount(1), -13);
        SealedBallots y = Check.opened(FOUR + "down 3; call 0; vote 0 0 1; vote 1 0 1; close; break 0 0 1; "
                + "break 1 0 1; count;");
        CHECK.is("recount by one not on the ROLL, and down", y.recount(3), -6);
        y.setLink(0, 1, false);
        CHECK.is("recount by one not reached", y.recount(1), 0);
        CHECK.is("recount in PHASE 1", new SealedBallots().recount(0), -13);
    }

    private static void recountEffects() {
        SealedBallots x = Check.opened("office replica 10 5; replica 20 5; replica 30 4; replica 40 5; least 1; "
                + "call 0; vote 0 1 1; vote 1 2 2; vote 2 1 3; vote 3 1 4; close; break 0 1 1; break 1 2 2; "
                + "break 2 1 4; break 3 0 4; count; cut 0 2;");
        CHECK.is("the LEADER before", x.replica(2, 4), 1);
        CHECK.is("recount", x.recount(0), 2);
        CHECK.is("a valid vote after it", x.replica(0, 6), 2);
        CHECK.is("a vote spoiled by another reason", x.replica(1, 7), 3);
        CHECK.is("a vote sealed again", x.replica(2, 6), 1);
        CHECK.is("its candidate or reason", x.replica(2, 7), -1);
        CHECK.is("its number", x.nonceFor(2, 1), 3);
        CHECK.is("the number of the other", x.nonceFor(3, 1), 4);
        for (int r = 0; r < 4; r++) {
            CHECK.is("the LEADER of " + r, x.replica(r, 4), -1);
        }
        CHECK.is("outcomes", x.office(14), 0);
        CHECK.is("recounts asked", x.office(13), 1);
        CHECK.is("count with a vote to break", x.count(), -12);
        CHECK.is("breakSeal as it was sealed", x.breakSeal(3, 1, 4), 0);
        CHECK.is("count again", x.count(), 1);
        CHECK.is("the votes of the one who was chosen", x.outcome(0, 2), 2);
    }

    private static void recountsLeft() {
        SealedBallots x = toCount("recounts 0;");
        x.count();
        CHECK.is("recount with RECOUNTS 0", x.recount(1), -14);
        x.set(2, 3);
        for (int asked = 1; asked <= 3; asked++) {
            CHECK.is("recount " + asked, x.recount(2), 0);
            CHECK.is("recounts asked", x.office(13), asked);
            x.count();
        }
        CHECK.is("recount 4", x.recount(2), -14);
        x.set(2, 2);
        CHECK.is("recount with fewer RECOUNTS than were asked", x.recount(2), -14);
        CHECK.is("a new TERM", x.call(0), 2);
        CHECK.is("recounts asked in a new TERM", x.office(13), 0);
    }

    private static void giveUp() {
        SealedBallots x = toCount("call 0; give;");
        x.count();
        CHECK.is("giveUp in PHASE 3", x.giveUp(), 2);
        CHECK.is("the PHASE", x.office(5), 0);
        CHECK.is("outcomes stay", x.office(14), 1);
        CHECK.is("the LEADER stays", x.replica(1, 4), 0);
        CHECK.is("the TERM stays", x.replica(1, 3), 2);
        CHECK.is("giveUp without a ballot", x.giveUp(), -17);
        for (int what = 6; what <= 13; what++) {
            CHECK.is("office(" + what + ") without a ballot", x.office(what), what <= 9 ? -1 : 0);
        }
        CHECK.is("a vote without a ballot", x.replica(0, 6), -1);
        CHECK.is("call after it", x.call(1), 3);
        CHECK.is("giveUp in PHASE 1", x.giveUp(), 3);
        SealedBallots y = toCount("");
        CHECK.is("giveUp in PHASE 2", y.giveUp(), 1);
        CHECK.is("outcomes", y.office(14), 0);
    }

    private static void setUp() {
        SealedBallots x = Check.opened(THREE);
        CHECK.throwsIndex("setUp(3, true)", () -> x.setUp(3, true));
        CHECK.throwsIndex("setUp(-1, true)", () -> x.setUp(-1, true));
        CHECK.is("setUp(0, true) of one up", x.setUp(0, true), -16);
        CHECK.is("setUp(0, false)", x.setUp(0, false), 2);
        CHECK.is("setUp(0, false) of one down", x.setUp(0, false), -16);
        CHECK.is("replica(0, 2)", x.replica(0, 2), 0);
        CHECK.is("setUp(1, false)", x.setUp(1, false), 1);
        CHECK.is("setUp(2, false)", x.setUp(2, false), 0);
        CHECK.is("setUp(1, true)", x.setUp(1, true), 1);
        CHECK.is("replica(1, 2)", x.replica(1, 2), 1);
    }

    private static void setUpLeaders() {
        SealedBallots x = Check.opened(FOUR + "call 0; vote 0 1 1; vote 1 1 2; vote 2 1 3; close; break 0 1 1; "
                + "break 1 1 2; break 2 1 3; count; cut 1 3;");
        x.setUp(2, false);
        CHECK.is("one who went down knows none", x.replica(2, 4), -1);
        CHECK.is("others still know theirs", x.replica(0, 4), 1);
        x.setUp(2, true);
        CHECK.is("one who came up knows none", x.replica(2, 4), -1);
        x.setUp(1, false);
        CHECK.is("the LEADER went down", x.replica(1, 4), -1);
        CHECK.is("one who is linked with it", x.replica(0, 4), -1);
        CHECK.is("one who is not linked with it", x.replica(3, 4), 1);
        CHECK.is("the ballot stays", x.office(5), 3);
        CHECK.is("the TERM stays", x.replica(1, 3), 1);
    }

    private static void setLink() {
        SealedBallots x = Check.opened(FOUR);
        CHECK.throwsIndex("setLink(4, 0, true)", () -> x.setLink(4, 0, true));
        CHECK.throwsIndex("setLink(0, 4, true)", () -> x.setLink(0, 4, true));
        CHECK.throwsIndex("setLink(-1, 0, true)", () -> x.setLink(-1, 0, true));
        CHECK.throwsIndex("setLink(0, -1, true)", () -> x.setLink(0, -1, true));
        CHECK.is("setLink(0, 1, true) of a link", x.setLink(0, 1, true), -16);
        CHECK.is("setLink(0, 0, true)", x.setLink(0, 0, true), -16);
        CHECK.is("setLink(0, 0, false)", x.setLink(0, 0, false), -16);
        CHECK.is("setLink(0, 1, false)", x.setLink(0, 1, false), 2);
        CHECK.is("setLink(1, 0, false) of no link", x.setLink(1, 0, false), -16);
        CHECK.is("setLink(2, 0, false)", x.setLink(2, 0, false), 2);
        CHECK.is("setLink(0, 3, false)", x.setLink(0, 3, false), 0);
        CHECK.isFalse("isLinked(3, 0)", x.isLinked(3, 0));
        CHECK.is("setLink(3, 0, true)", x.setLink(3, 0, true), 3);
        CHECK.isTrue("isLinked(0, 3)", x.isLinked(0, 3));
        x.setUp(2, false);
        CHECK.is("setLink(3, 2, false) of one down", x.setLink(3, 2, false), 2);
    }

    private static void setFresh() {
        SealedBallots x = new SealedBallots();
        CHECK.throwsIndex("setFresh(5, -1)", () -> x.setFresh(5, -1));
        CHECK.throwsIndex("setFresh(-1, 0)", () -> x.setFresh(-1, 0));
        CHECK.throwsArgument("setFresh(0, -1)", () -> x.setFresh(0, -1));
        CHECK.throwsArgument("setFresh(0, 1000)", () -> x.setFresh(0, 1000));
        CHECK.is("setFresh(1, 0)", x.setFresh(1, 0), 7);
        CHECK.is("setFresh(1, 999)", x.setFresh(1, 999), 0);
        CHECK.is("setFresh(1, 999) again", x.setFresh(1, 999), 999);
        CHECK.is("a change, though nothing is different", x.office(17), 3);
        CHECK.is("replica(1, 1)", x.replica(1, 1), 999);
        CHECK.is("replica(2, 1)", x.replica(2, 1), 5);
    }

    private static void set() {
        SealedBallots x = new SealedBallots();
        int[] first = {2, 1, 1};
        int[] least = {1, 0, 0};
        int[] greatest = {9, 1, 3};
        for (int w = 0; w < 3; w++) {
            int what = w;
            CHECK.throwsArgument("set(" + what + ", too little)", () -> x.set(what, least[what] - 1));
            CHECK.throwsArgument("set(" + what + ", too much)", () -> x.set(what, greatest[what] + 1));
            CHECK.is("set(" + what + ", least)", x.set(what, least[what]), first[what]);
            CHECK.is("set(" + what + ", greatest)", x.set(what, greatest[what]), least[what]);
            CHECK.is("office(" + (what + 2) + ")", x.office(what + 2), greatest[what]);
        }
        CHECK.throwsArgument("set(-1, 1)", () -> x.set(-1, 1));
        CHECK.throwsArgument("set(3, 1)", () -> x.set(3, 1));
        CHECK.is("changes", x.office(17), 6);
    }

    private static void undo() {
        SealedBallots x = new SealedBallots();
        CHECK.is("undo of nothing", x.undo(), -1);
        for (int fresh = 0; fresh < 12; fresh++) {
            x.setFresh(0, 100 + fresh);
        }
        CHECK.is("ten changes can be undone", x.office(17), 10);
        for (int left = 9; left >= 0; left--) {
            CHECK.is("undo", x.undo(), left);
            CHECK.is("FRESH after it", x.replica(0, 1), 101 + left);
        }
        CHECK.is("undo of no more", x.undo(), -1);
        CHECK.is("FRESH after that", x.replica(0, 1), 101);
        x.set(0, 9);
        x.undo();
        x.set(1, 0);
        CHECK.is("a change after an undo", x.undo(), 0);
        CHECK.is("LEAST", x.office(2), 2);
        CHECK.is("TIES", x.office(3), 1);
    }

    private static void whatCanBeUndone() {
        SealedBallots x = new SealedBallots();
        CHECK.is("a refused deed", x.count(), -10);
        CHECK.throwsArgument("a call that throws", () -> x.set(0, 10));
        x.keep(0);
        x.writeVotes();
        x.append(0, 0, 0, 0, 0);
        CHECK.is("no change was made", x.office(17), 0);
        x.close();
        x.breakSeal(0, 2, 11);
        x.writeVotes();
        x.append(0, 0, 0, 0, 0);
        x.keep(0);
        x.undo();
        CHECK.is("the report is not undone", x.reportByte(0), '2');
        CHECK.is("the text buffer is not undone", x.office(18), 40);
        x.undo();
        x.restore(0);
        CHECK.is("the slots are not undone", x.office(11), 1);
    }

    /** Each kind of change, undone: all is as it was before. */
    private static void undoEachChange() {
        undoAll(() -> toCount(""), x -> x.count(), x -> x.recount(2), x -> x.giveUp(), x -> x.call(1),
                x -> x.seal(0, 7), x -> x.vote(1, 2, 7), x -> x.setLink(0, 2, false), x -> x.setUp(2, false),
                x -> x.setFresh(1, 3), x -> Check.load(x, FOUR));
        undoAll(SealedBallots::new, x -> x.close(), x -> x.breakSeal(0, 2, 12), x -> x.set(2, 0));
    }

    /** Compares, for each number of changes, an object that had them all, of which the later ones are undone. */
    private static void undoAll(Check.Maker maker, Check.Deed... changes) {
        for (int left = changes.length - 1; left >= 0; left--) {
            SealedBallots all = maker.make();
            SealedBallots some = maker.make();
            for (int i = 0; i < changes.length; i++) {
                changes[i].on(all);
                if (i < left) {
                    changes[i].on(some);
                }
            }
            int most = Math.min(10, all.office(17));
            for (int undone = 1; undone <= changes.length - left; undone++) {
                CHECK.is("undo of a change", all.undo(), most - undone);
            }
            CHECK.isSame("all after it", Check.all(all), Check.all(some));
        }
    }

    private static void keep() {
        SealedBallots x = new SealedBallots();
        CHECK.throwsArgument("keep(-1)", () -> x.keep(-1));
        CHECK.throwsArgument("keep(2)", () -> x.keep(2));
        CHECK.is("keep(0)", x.keep(0), 5);
        Check.load(x, THREE);
        CHECK.is("keep(1)", x.keep(1), 3);
        x.set(0, 7);
        CHECK.is("keep is no change", x.office(17), 2);
        CHECK.is("restore(1)", x.restore(1), 3);
        CHECK.is("LEAST as it was kept", x.office(2), 2);
        x.set(0, 8);
        CHECK.is("keep(1) in place of what was there", x.keep(1), 3);
        x.restore(0);
        x.restore(1);
        CHECK.is("LEAST as it was kept later", x.office(2), 8);
    }

    private static void restore() {
        SealedBallots x = new SealedBallots();
        CHECK.throwsArgument("restore(-1)", () -> x.restore(-1));
        CHECK.throwsArgument("restore(2)", () -> x.restore(2));
        CHECK.doesThrow("restore(0)", NoSuchElementException.class, () -> x.restore(0));
        x.close();
        x.breakSeal(0, 2, 11);
        x.writeVotes();
        x.keep(0);
        SealedBallots other = new SealedBallots();
        other.close();
        other.breakSeal(0, 2, 11);
        String kept = Check.all(other);
        CHECK.doesThrow("restore(1)", NoSuchElementException.class, () -> x.restore(1));
        Check.load(x, THREE);
        x.append(0, 0, 0, 0, 0);
        CHECK.is("restore(0)", x.restore(0), 5);
        CHECK.isSame("all after it", Check.all(x), kept);
        CHECK.is("the text buffer after it", x.office(18), 20);
        CHECK.is("changes after it", x.office(17), 0);
        CHECK.is("undo after it", x.undo(), -1);
        x.breakSeal(1, 4, 12);
        x.giveUp();
        CHECK.is("restore(0) again", x.restore(0), 5);
        CHECK.isSame("all after it", Check.all(x), kept);
        CHECK.is("the report after it", x.reportByte(0), '2');
    }
}
