/** Promises 25 to 35: reasons and what would be. */
public final class ReasonsTest {
    private static final String THREE = "office replica 10 0; replica 20 0; replica 30 0;";
    private static final String FOUR = "office replica 10 0; replica 20 0; replica 30 0; replica 40 0;";
    private static final String FIVE = FOUR + "replica 50 0;";

    private static final Check CHECK = new Check("ReasonsTest");

    private ReasonsTest() {
    }

    public static void main(String[] args) {
        ahead();
        aheadUnreached();
        aheadIf();
        canWin();
        canWinByTies();
        canWinUnreached();
        canWinByLeast();
        wouldSpoil();
        nonceFor();
        callers();
        vital();
        whyNot();
        whyByVotes();
        whyByTies();
        whyByLeast();
        whyOrder();
        gap();
        turnout();
        meanAge();
        CHECK.end();
    }

    /** Each replica votes for the one told for it, or does not vote (-1); all seals are broken. */
    private static SealedBallots voted(String office, int... candidates) {
        StringBuilder text = new StringBuilder(office + "call 0;");
        StringBuilder breaks = new StringBuilder();
        for (int voter = 0; voter < candidates.length; voter++) {
            if (candidates[voter] >= 0) {
                String vote = voter + " " + candidates[voter] + " 1;";
                text.append("vote ").append(vote);
                breaks.append("break ").append(vote);
            }
        }
        return Check.opened(text + "close;" + breaks);
    }

    private static void ahead() {
        SealedBallots x = Check.opened(THREE);
        CHECK.is("ahead without a ballot", x.ahead(), -1);
        x.call(0);
        x.set(0, 1);
        x.vote(0, 0, 1);
        x.vote(1, 0, 1);
        CHECK.is("ahead in PHASE 1", x.ahead(), -1);
        x.close();
        CHECK.is("ahead with no valid vote", x.ahead(), -1);
        x.breakSeal(0, 0, 1);
        CHECK.is("ahead with LEAST 1", x.ahead(), 0);
        x.set(0, 2);
        CHECK.is("ahead with LEAST 2", x.ahead(), -1);
        x.breakSeal(1, 0, 1);
        CHECK.is("ahead with two votes", x.ahead(), 0);
        x.count();
        CHECK.is("ahead in PHASE 3", x.ahead(), 0);
        x.set(0, 3);
        CHECK.is("ahead in PHASE 3, by LEAST as it is", x.ahead(), -1);
        SealedBallots y = voted(FOUR, 1, 1, 1, 1);
        y.ahead();
        CHECK.is("ahead is no change", y.office(17), 1);
        CHECK.is("ahead by AGE", voted(FOUR, 1, 0, 1, 0).ahead(), 1);
        CHECK.is("ahead with TIES 0", voted(FOUR + "ties 0;", 1, 0, 1, 0).ahead(), -1);
        CHECK.is("ahead by number", voted("office replica 9 0; replica 9 0; replica 9 0; replica 8 0; least 1;", 1, 2,
                3, -1).ahead(), 1);
        CHECK.is("ahead with the most votes", voted(FIVE, 1, 1, 0, 0, 0).ahead(), 0);
    }

    private static void aheadUnreached() {
        SealedBallots x = Check.opened(FIVE + "call 0; vote 0 1 1; vote 1 1 1; vote 2 2 1; vote 3 2 1; vote 4 2 1; "
                + "close; break 0 1 1; break 1 1 1; break 2 2 1;");
        CHECK.is("sealed votes count for none", x.ahead(), 1);
        x.setUp(3, false);
        CHECK.is("nor if they are not reached", x.ahead(), 1);
        x.setUp(1, false);
        CHECK.is("one who went down is still ahead", x.ahead(), 1);
    }

    private static void aheadIf() {
        SealedBallots x = voted(FOUR + "least 9; ties 0;", 1, 0, 1, 0);
        CHECK.is("aheadIf(1, 1)", x.aheadIf(1, 1), 1);
        CHECK.is("aheadIf(2, 1)", x.aheadIf(2, 1), 1);
        CHECK.is("aheadIf(3, 1)", x.aheadIf(3, 1), -1);
        CHECK.is("aheadIf(2, 0)", x.aheadIf(2, 0), -1);
        CHECK.is("aheadIf(9, 1)", x.aheadIf(9, 1), -1);
        CHECK.is("LEAST stays", x.office(2), 9);
        CHECK.is("TIES stays", x.office(3), 0);
        CHECK.throwsArgument("aheadIf(0, 0)", () -> x.aheadIf(0, 0));
        CHECK.throwsArgument("aheadIf(10, 0)", () -> x.aheadIf(10, 0));
        CHECK.throwsArgument("aheadIf(1, -1)", () -> x.aheadIf(1, -1));
        CHECK.throwsArgument("aheadIf(1, 2)", () -> x.aheadIf(1, 2));
        CHECK.is("aheadIf without a ballot", Check.opened(THREE).aheadIf(1, 1), -1);
        CHECK.is("aheadIf in PHASE 1", new SealedBallots().aheadIf(1, 1), -1);
        SealedBallots y = voted(FOUR, 1, 1, 1, 0);
        y.count();
        CHECK.is("aheadIf(3, 0) in PHASE 3", y.aheadIf(3, 0), 1);
        CHECK.is("aheadIf(4, 0) in PHASE 3", y.aheadIf(4, 0), -1);
        CHECK.throwsArgument("aheadIf(0, 0) without a ballot", () -> Check.opened(THREE).aheadIf(0, 0));
    }

    private static void canWin() {
        SealedBallots x = new SealedBallots();
        CHECK.isFalse("canWin(2) in PHASE 1", x.canWin(2));
        x.close();
        boolean[] due = {true, true, true, false, true};
        for (int r = 0; r < 5; r++) {
            CHECK.is("canWin(" + r + ")", x.canWin(r) ? 1 : 0, due[r] ? 1 : 0);
        }
        CHECK.throwsIndex("canWin(5)", () -> x.canWin(5) ? 1 : 0);
        CHECK.throwsIndex("canWin(-1)", () -> x.canWin(-1) ? 1 : 0);
        x.setUp(2, false);
        CHECK.isFalse("canWin(2) when it is down", x.canWin(2));
        x.giveUp();
        CHECK.isFalse("canWin(4) without a ballot", x.canWin(4));
        SealedBallots y = voted(THREE, 1, 1, 1);
        CHECK.isTrue("canWin with no vote left", y.canWin(1));
        CHECK.isFalse("canWin of another with no vote left", y.canWin(0));
        y.setUp(1, false);
        CHECK.isTrue("canWin of one who is down, with valid votes", y.canWin(1));
        y.count();
        CHECK.isFalse("canWin in PHASE 3", y.canWin(1));
        SealedBallots z = Check.opened(FOUR + "down 3; call 0; up 3; vote 0 3 1; vote 1 3 1; vote 2 3 1; close;");
        CHECK.isFalse("canWin of one not on the ROLL", z.canWin(3));
        CHECK.isTrue("canWin of one on the ROLL", z.canWin(2));
    }

    private static void canWinByTies() {
        String text = "call 0; vote 0 1 1; vote 1 1 1; vote 2 0 1; vote 3 0 1; close; break 0 1 1; break 1 1 1;";
        SealedBallots x = Check.opened(FOUR + text);
        CHECK.isFalse("canWin of one younger", x.canWin(0));
        CHECK.isTrue("canWin of the one ahead", x.canWin(1));
        CHECK.isTrue("canWin of one older", x.canWin(2));
        SealedBallots y = Check.opened(FOUR + "ties 0;" + text);
        CHECK.isFalse("canWin of one older, with TIES 0", y.canWin(2));
        CHECK.isTrue("canWin of the one ahead, with TIES 0", y.canWin(1));
        SealedBallots z = Check.opened(FIVE + "ties 0;" + text.replace("close;", "vote 4 0 1; close;"));
        CHECK.isTrue("canWin by one vote more, with TIES 0", z.canWin(0));
        CHECK.isTrue("canWin of another by one vote more", z.canWin(4));
    }

    private static void canWinUnreached() {
        SealedBallots x = Check.opened(FOUR + "call 0; vote 0 0 1; vote 1 0 1; vote 2 0 1; close; cut 0 2; down 1; ");
        CHECK.isFalse("canWin with one vote reached", x.canWin(3));
        x.setUp(1, true);
        CHECK.isTrue("canWin with two votes reached", x.canWin(3));
        x.setUp(0, false);
        CHECK.isFalse("canWin with none reached", x.canWin(3));
        x.set(0, 1);
        CHECK.isFalse("canWin with none reached and LEAST 1", x.canWin(3));
        x.setUp(0, true);
        CHECK.isTrue("canWin with the CALLER up again", x.canWin(3));
    }

    private static void canWinByLeast() {
        SealedBallots x = Check.opened(FOUR + "least 3; call 0; vote 0 0 1; vote 1 0 1; vote 2 0 1; close;");
        CHECK.isTrue("canWin with LEAST votes left", x.canWin(1));
        x.setFresh(2, 1);
        CHECK.isFalse("canWin with a voter more FRESH", x.canWin(1));
        x.setFresh(1, 1);
        CHECK.isTrue("canWin when it is as FRESH", x.canWin(1));
        x.breakSeal(0, 0, 2);
        CHECK.isFalse("canWin with a vote spoiled", x.canWin(1));
    }

    private static void wouldSpoil() {
        SealedBallots x = Check.opened("office replica 10 5; replica 20 5; replica 30 4; replica 40 9; replica 50 0; "
                + "down 4;");
        CHECK.is("wouldSpoil without a ballot", x.wouldSpoil(0, 1), -1);
        x.call(0);
        x.setUp(3, false);
        int[][] due = {{0, 0, 3, 4, 2}, {0, 0, 3, 4, 2}, {0, 0, 0, 4, 2}, {3, 3, 3, 4, 2}, {-1, -1, -1, -1, -1}};
        for (int voter = 0; voter < 5; voter++) {
            for (int candidate = 0; candidate < 5; candidate++) {
                CHECK.is("wouldSpoil(" + voter + ", " + candidate + ")", x.wouldSpoil(voter, candidate),
                        due[voter][candidate]);
            }
        }
        x.setUp(2, false);
        CHECK.is("wouldSpoil(0, 2), less FRESH and down", x.wouldSpoil(0, 2), 3);
        x.setUp(4, true);
        CHECK.is("wouldSpoil(0, 4), not on the ROLL though up", x.wouldSpoil(0, 4), 2);
        CHECK.is("wouldSpoil(4, 0), not on the ROLL though up", x.wouldSpoil(4, 0), -1);
        CHECK.throwsIndex("wouldSpoil(5, 0)", () -> x.wouldSpoil(5, 0));
        CHECK.throwsIndex("wouldSpoil(0, 5)", () -> x.wouldSpoil(0, 5));
        CHECK.throwsIndex("wouldSpoil(-1, 0)", () -> x.wouldSpoil(-1, 0));
        CHECK.throwsIndex("wouldSpoil(0, -1)", () -> x.wouldSpoil(0, -1));
        SealedBallots y = voted(THREE, 1, 1, 1);
        y.count();
        CHECK.is("wouldSpoil in PHASE 3", y.wouldSpoil(0, 1), 0);
    }

    private static void nonceFor() {
        SealedBallots x = Check.opened(FOUR);
        CHECK.is("nonceFor without a ballot", x.nonceFor(0, 0), -1);
        Check.load(x, FOUR + "down 3; call 0; vote 0 1 0; vote 1 2 999;");
        CHECK.is("nonceFor(0, 1)", x.nonceFor(0, 1), 0);
        CHECK.is("nonceFor(1, 2)", x.nonceFor(1, 2), 999);
        CHECK.is("nonceFor of a vote not sealed", x.nonceFor(2, 0), -1);
        CHECK.is("nonceFor of one not on the ROLL", x.nonceFor(3, 0), -1);
        CHECK.is("nonceFor another", x.nonceFor(0, 0), -1);
        x.seal(2, x.sealFor(3, 500, 1));
        CHECK.is("nonceFor one not on the ROLL", x.nonceFor(2, 3), 500);
        CHECK.is("nonceFor of another TERM", Check.opened(FOUR + "call 0; seal 0 " + x.sealFor(0, 1, 2) + ";")
                .nonceFor(0, 0), -1);
        x.close();
        CHECK.is("nonceFor in PHASE 2", x.nonceFor(0, 1), 0);
        x.breakSeal(0, 1, 1);
        CHECK.is("nonceFor of a broken vote", x.nonceFor(0, 1), -1);
        x.breakSeal(1, 2, 999);
        x.setUp(2, false);
        x.count();
        CHECK.is("nonceFor in PHASE 3", x.nonceFor(2, 3), 500);
        x.recount(0);
        CHECK.is("nonceFor of a vote sealed again", x.nonceFor(0, 1), 0);
        CHECK.throwsIndex("nonceFor(4, 0)", () -> x.nonceFor(4, 0));
        CHECK.throwsIndex("nonceFor(0, 4)", () -> x.nonceFor(0, 4));
        CHECK.throwsIndex("nonceFor(-1, 0)", () -> x.nonceFor(-1, 0));
        CHECK.throwsIndex("nonceFor(0, -1)", () -> x.nonceFor(0, -1));
        SealedBallots y = Check.opened(FOUR + "call 0;");
        y.seal(0, y.sealFor(1, 17, 1));
        CHECK.is("31 is no part of 17", y.nonceFor(0, 0), -1);
    }

    private static void callers() {
        CHECK.is("callers of all", Check.opened(THREE).callers(), 7);
        CHECK.is("callers though a ballot is there", new SealedBallots().callers(), 31);
        CHECK.is("callers with half up", Check.opened(FOUR + "down 0; down 1;").callers(), 0);
        CHECK.is("callers with more than half up", Check.opened(FOUR + "down 0;").callers(), 14);
        CHECK.is("callers with links cut", Check.opened(FOUR + "cut 0 1; cut 0 2;").callers(), 14);
        CHECK.is("callers of a star", Check.opened(FIVE + "cut 0 1; cut 0 2; cut 0 3; cut 1 2; cut 1 3; cut 2 3;")
                .callers(), 16);
        CHECK.is("callers of two", Check.opened("office replica 1 1; replica 1 1;").callers(), 3);
        CHECK.is("callers of two, one down", Check.opened("office replica 1 1; replica 1 1; down 0;").callers(), 0);
        CHECK.is("callers of none up", Check.opened(THREE + "down 0; down 1; down 2;").callers(), 0);
    }

    private static void vital() {
        CHECK.is("vital of three", Check.opened(THREE).vital(), 0);
        CHECK.is("vital of three, one down", Check.opened(THREE + "down 1;").vital(), 5);
        CHECK.is("vital of four", Check.opened(FOUR).vital(), 0);
        CHECK.is("vital of four, one down", Check.opened(FOUR + "down 3;").vital(), 7);
        CHECK.is("vital with none who could call", Check.opened(FOUR + "down 3; down 2;").vital(), 0);
        CHECK.is("vital of a star", Check.opened(FIVE + "cut 0 1; cut 0 2; cut 0 3; cut 1 2; cut 1 3; cut 2 3;")
                .vital(), 16);
        CHECK.is("vital of a chain", Check.opened(THREE + "cut 0 2;").vital(), 2);
        CHECK.is("vital of two", Check.opened("office replica 1 1; replica 1 1;").vital(), 3);
        SealedBallots x = new SealedBallots();
        CHECK.is("vital though a ballot is there", x.vital(), 0);
        CHECK.is("nobody went down", x.office(1), 5);
    }

    private static void whyIs(String state, SealedBallots x, int replica, int reason, int cause) {
        CHECK.is(state + ": why(" + replica + ", 0)", x.why(replica, 0), reason);
        CHECK.is(state + ": why(" + replica + ", 1)", x.why(replica, 1), cause);
    }

    private static void whyNot() {
        SealedBallots x = voted(FOUR + "down 3;", 1, 1, 1);
        whyIs("no outcome", x, 1, 1, -1);
        x.count();
        whyIs("chosen", x, 1, 0, -1);
        whyIs("not on the ROLL", x, 3, 3, -1);
        whyIs("fewer votes", x, 0, 4, 1);
        x.recount(0);
        whyIs("recounted", x, 1, 1, -1);
        x.count();
        x.giveUp();
        whyIs("given up, of the one who was chosen", x, 1, 0, -1);
        whyIs("given up", x, 0, 2, -1);
        whyIs("given up, not on the ROLL", x, 3, 2, -1);
        x.call(0);
        whyIs("called anew", x, 0, 2, -1);
        whyIs("called anew, of the one who was chosen", x, 1, 0, -1);
        CHECK.throwsIndex("why(4, 2)", () -> x.why(4, 2));
        CHECK.throwsIndex("why(-1, 0)", () -> x.why(-1, 0));
        CHECK.throwsArgument("why(0, 2)", () -> x.why(0, 2));
        CHECK.throwsArgument("why(0, -1)", () -> x.why(0, -1));
    }

    private static void whyByVotes() {
        SealedBallots x = voted(FIVE, 1, 1, 2, 2, 0);
        x.count();
        whyIs("of several with the most, the one ahead", x, 0, 4, 2);
        whyIs("the one who was ahead", x, 2, 0, -1);
        SealedBallots y = voted(FIVE + "ties 0;", 2, 1, 1, 2, 0);
        y.count();
        whyIs("of several with the most, the least number", y, 0, 4, 1);
        whyIs("of several with the most, the least number", y, 4, 4, 1);
        SealedBallots z = voted(FIVE + "least 4; ties 0;", 3, 3, 3, 0, 0);
        z.count();
        whyIs("ahead though not chosen", z, 0, 4, 3);
        whyIs("fewer than LEAST", z, 3, 7, 1);
        SealedBallots w = voted(FIVE + "least 4;", 1, 1, 2, 2, 0);
        w.count();
        whyIs("ahead by AGE though not chosen", w, 0, 4, 2);
    }

    private static void whyByTies() {
        SealedBallots x = voted(FOUR, 1, 0, 1, 0);
        x.count();
        whyIs("as many, and one older", x, 0, 5, 1);
        whyIs("none", x, 2, 4, 1);
        x.set(1, 0);
        x.set(0, 3);
        whyIs("as many, by TIES as it was", x, 0, 5, 1);
        SealedBallots y = voted(FOUR + "ties 0;", 1, 0, 1, 0);
        y.count();
        whyIs("as many, TIES 0", y, 0, 6, 2);
        whyIs("as many, TIES 0", y, 1, 6, 2);
        y.set(1, 1);
        whyIs("as many, by TIES 0 as it was", y, 1, 6, 2);
        SealedBallots z = voted("office replica 9 0; replica 9 0; replica 9 0; least 1;", 0, 1, 2);
        z.count();
        whyIs("as many, and one of a lesser number", z, 1, 5, 0);
        whyIs("as many, and one of a lesser number", z, 2, 5, 0);
        SealedBallots w = voted(THREE + "ties 0; least 2;", 0, 1, 2);
        w.count();
        whyIs("as many, TIES 0, and fewer than LEAST", w, 2, 6, 3);
    }

    private static void whyByLeast() {
        SealedBallots x = voted(THREE + "least 9;", 0, 0, -1);
        x.count();
        whyIs("fewer than LEAST", x, 0, 7, 7);
        x.set(0, 1);
        whyIs("fewer than LEAST as it was", x, 0, 7, 7);
        SealedBallots y = voted(THREE + "least 3;", 0, 1, 2);
        y.count();
        whyIs("ahead by AGE with fewer than LEAST", y, 2, 7, 2);
        whyIs("as many", y, 1, 5, 2);
        SealedBallots z = Check.opened(THREE + "call 0; vote 0 0 1; vote 1 0 1; close; break 0 0 2; break 1 0 2; "
                + "count;");
        whyIs("no votes, ahead by AGE", z, 2, 7, 2);
        whyIs("no votes", z, 0, 5, 2);
        SealedBallots w = voted(FOUR, 3, 3, 3, 3);
        w.count();
        w.setUp(3, false);
        w.call(0);
        w.vote(0, 0, 1);
        w.vote(1, 0, 1);
        w.close();
        w.breakSeal(0, 0, 2);
        w.breakSeal(1, 0, 2);
        w.count();
        whyIs("no votes, after another was chosen", w, 2, 7, 2);
        whyIs("no votes, after another was chosen", w, 1, 5, 2);
    }

    private static void whyOrder() {
        SealedBallots x = voted(THREE + "least 3;", 0, 0, 1);
        x.count();
        whyIs("more votes of another come ahead of LEAST", x, 1, 4, 0);
        x.call(0);
        x.vote(0, 2, 1);
        x.vote(1, 2, 1);
        x.close();
        x.breakSeal(0, 2, 1);
        whyIs("the ballot is another one by now", x, 0, 2, -1);
        x.breakSeal(1, 2, 1);
        x.set(0, 2);
        x.count();
        whyIs("the latest outcome", x, 2, 0, -1);
        x.recount(0);
        whyIs("the outcome before is the latest again", x, 0, 2, -1);
    }

    private static void gap() {
        SealedBallots x = new SealedBallots();
        CHECK.is("gap in PHASE 1", x.gap(), 0);
        x.close();
        x.breakSeal(0, 2, 11);
        x.breakSeal(1, 4, 0);
        CHECK.is("gap in PHASE 2", x.gap(), 0);
        x.breakSeal(2, 2, 13);
        x.breakSeal(3, 4, 14);
        x.count();
        CHECK.is("gap in PHASE 3", x.gap(), 0);
        x.recount(0);
        CHECK.is("gap after a recount", x.gap(), 0);
        x.giveUp();
        x.setLink(1, 2, false);
        x.setUp(3, false);
        x.call(1);
        CHECK.is("gap with one down and links cut", x.gap(), 0);
        SealedBallots y = Check.opened("office replica 10 0; replica 20 0;");
        for (int round = 0; round < 14; round++) {
            y.call(1);
            y.vote(0, 1, 1);
            y.vote(1, 1, 1);
            y.close();
            y.breakSeal(0, 1, 1);
            y.breakSeal(1, 1, 1);
            y.count();
            CHECK.is("gap after outcomes", y.gap(), 0);
        }
        CHECK.is("gap of an office of nine", Check.opened("office" + " replica 9 9;".repeat(9) + "call 8;").gap(), 0);
    }

    private static void turnout() {
        SealedBallots x = Check.opened(THREE);
        isFloat("turnout without a ballot", x.turnout(), 0.0f);
        x.call(0);
        x.vote(0, 0, 1);
        x.vote(1, 0, 1);
        isFloat("turnout in PHASE 1", x.turnout(), 0.0f);
        x.close();
        x.breakSeal(0, 0, 1);
        isFloat("turnout of one", x.turnout(), 1.0f / 3.0f);
        x.breakSeal(1, 0, 2);
        isFloat("turnout of one, and one spoiled", x.turnout(), 1.0f / 3.0f);
        x.count();
        isFloat("turnout in PHASE 3", x.turnout(), 1.0f / 3.0f);
        x.giveUp();
        isFloat("turnout after giveUp", x.turnout(), 0.0f);
        isFloat("turnout of all", voted(THREE, 0, 0, 0).turnout(), 1.0f);
        isFloat("turnout of a ROLL of three of four", voted(FOUR + "down 3;", 0, 0, -1).turnout(), 2.0f / 3.0f);
    }

    private static void isFloat(String call, float got, float due) {
        CHECK.is(call, Float.floatToRawIntBits(got), Float.floatToRawIntBits(due));
    }

    private static void meanAge() {
        isDouble("meanAge of a new object", new SealedBallots().meanAge(), 40.0);
        SealedBallots x = Check.opened("office replica 10 0; replica 21 0; replica 99 0;");
        isDouble("meanAge of three", x.meanAge(), 130.0 / 3.0);
        x.setUp(2, false);
        isDouble("meanAge of two", x.meanAge(), 15.5);
        x.setUp(0, false);
        isDouble("meanAge of one", x.meanAge(), 21.0);
        x.setUp(1, false);
        isDouble("meanAge of none", x.meanAge(), 0.0);
    }

    private static void isDouble(String call, double got, double due) {
        CHECK.is(call, Double.doubleToRawLongBits(got), Double.doubleToRawLongBits(due));
    }
}
