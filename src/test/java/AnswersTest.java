/** The edges of promises 18 to 37: what there is, reasons and what would be, and the report. */
public final class AnswersTest {
    private static final String FOUR = "office replica 10 0; replica 20 0; replica 30 0; replica 40 0;";
    private static final String FIVE = FOUR + "replica 50 0;";
    private static final String NINE = "office" + " replica 5 5;".repeat(9);

    private static final Check CHECK = new Check("AnswersTest");

    private AnswersTest() {
    }

    public static void main(String[] args) {
        officeWithoutBallot();
        greatestTerm();
        officeAtItsLargest();
        candidateOrReason();
        setsOfTheFirstAndTheLast();
        outcomeBySeveral();
        aheadInEachPhase();
        canWinInEachPhase();
        canWinAtLeast();
        canWinAtATie();
        canWinByWhatIsLeft();
        wouldSpoilInEachPhase();
        nonceForEachVote();
        callersByLinks();
        vitalByLinks();
        callersAndVitalInEachPhase();
        gapInEachState();
        whyInItsOrder();
        whyAtTheLimits();
        whyOfTheLatest();
        turnoutOfEachRoll();
        meanAgeOfEachNumber();
        reportOfEachState();
        reportOfAVoteLeftSealed();
        reportStays();
        CHECK.end();
    }

    /** The first replicas vote, each for the one told for it, and the others do not; all seals are broken. */
    private static SealedBallots voted(String office, int... candidates) {
        StringBuilder text = new StringBuilder(office + "call 0;");
        StringBuilder breaks = new StringBuilder("close;");
        for (int voter = 0; voter < candidates.length; voter++) {
            text.append("vote ").append(voter).append(' ').append(candidates[voter]).append(" 0;");
            breaks.append("break ").append(voter).append(' ').append(candidates[voter]).append(" 0;");
        }
        return Check.opened(text.append(breaks).toString());
    }

    private static void bits(String call, boolean got, int due) {
        CHECK.is(call, got ? 1 : 0, due);
    }

    /** "6 to 9: NONE without a ballot", "10 to 13: 0 without a ballot". */
    private static void officeWithoutBallot() {
        String counted = FOUR + "call 3; vote 0 1 1; vote 1 1 1; vote 2 1 1; close; break 0 1 1; break 1 1 2; "
                + "down 2; count; recount 0;";
        SealedBallots x = Check.opened(counted);
        int[] due = {1, 3, 15, 3, 2, 1, 0, 1};
        for (int what = 6; what <= 13; what++) {
            CHECK.is("office(" + what + ") with a ballot", x.office(what), due[what - 6]);
        }
        x.giveUp();
        SealedBallots never = Check.opened(FOUR);
        for (int what = 6; what <= 13; what++) {
            CHECK.is("office(" + what + "), given up", x.office(what), what <= 9 ? -1 : 0);
            CHECK.is("office(" + what + "), never called", never.office(what), what <= 9 ? -1 : 0);
        }
        CHECK.is("the greatest TERM stays", x.office(15), 1);
    }

    /** "the greatest TERM of all replicas": also of those that are down, and not on the ROLL. */
    private static void greatestTerm() {
        CHECK.is("of those that are down", Check.opened(FOUR + "down 3; call 0; give; call 0; down 0; down 1; down 2; "
                + "up 3;").office(15), 2);
        CHECK.is("of those that were left out later", Check.opened(FIVE + "cut 3 0; cut 3 1; call 0; give; call 0; "
                + "give; down 0; down 1; cut 2 4; cut 2 3;").office(15), 2);
        CHECK.is("of none", Check.opened(FOUR).office(15), 0);
    }

    private static void officeAtItsLargest() {
        SealedBallots x = voted(NINE, 8, 8, 8, 8, 8, 8, 8, 8, 8);
        int[] due = {9, 9, 2, 1, 1, 2, 1, 0, 511, 5, 0, 9, 0, 0, 0, 1, 0, 1, 0};
        for (int what = 0; what < due.length; what++) {
            CHECK.is("office(" + what + ") of nine", x.office(what), due[what]);
        }
        CHECK.is("valid votes for the last one", x.replica(8, 8), 9);
        CHECK.is("others linked with the first one", x.replica(0, 5), 510);
        CHECK.is("others linked with the last one", x.replica(8, 5), 255);
        StringBuilder all = new StringBuilder(NINE);
        for (int r = 1; r < 9; r++) {
            for (int other = 0; other < r; other++) {
                all.append("cut ").append(r).append(' ').append(other).append(';');
            }
        }
        SealedBallots y = Check.opened(all.toString());
        CHECK.is("links that are cut, all", y.office(16), 36);
        CHECK.is("others linked with 4", y.replica(4, 5), 0);
        CHECK.is("callers", y.callers(), 0);
        CHECK.is("a join: others linked with the first one then", y.setLink(0, 8, true), 1);
        CHECK.is("links that are cut, all but one", y.office(16), 35);
    }

    /** "the candidate of a valid vote, the reason of a spoiled one, otherwise NONE": also candidate 0. */
    private static void candidateOrReason() {
        SealedBallots x = Check.opened(FIVE + "call 0; vote 0 0 1; vote 1 0 1; vote 2 4 1; vote 3 3 1; close; "
                + "break 0 0 1; break 1 0 2; break 2 4 1;");
        int[] votes = {2, 3, 2, 1, 0};
        int[] found = {0, 1, 4, -1, -1};
        int[] valid = {1, 0, 0, 0, 1};
        for (int r = 0; r < 5; r++) {
            CHECK.is("replica(" + r + ", 6)", x.replica(r, 6), votes[r]);
            CHECK.is("replica(" + r + ", 7)", x.replica(r, 7), found[r]);
            CHECK.is("replica(" + r + ", 8)", x.replica(r, 8), valid[r]);
        }
        // it was on the ROLL when the votes became valid: they stay so when it goes down or is more FRESH no more
        x.setUp(4, false);
        x.setFresh(2, 9);
        CHECK.is("valid votes for one who went down", x.replica(4, 8), 1);
        CHECK.is("valid votes", x.office(11), 2);
    }

    /** "Sets are told as the sum of 2 to the power of the numbers": the numbers 0 and 8. */
    private static void setsOfTheFirstAndTheLast() {
        SealedBallots x = Check.opened(NINE + "down 1; down 2; down 3; down 4; call 0;");
        CHECK.is("the ROLL", x.office(8), 0b111100001);
        CHECK.is("callers", x.callers(), 0b111100001);
        CHECK.is("vital", x.vital(), 0b111100001);
        CHECK.is("links of 8", x.replica(8, 5), 0b011111111);
        x.setUp(1, true);
        CHECK.is("callers with one more", x.callers(), 0b111100011);
        CHECK.is("vital with one more", x.vital(), 0);
        x.setUp(8, false);
        CHECK.is("callers without the last one", x.callers(), 0b011100011);
        CHECK.is("vital without the last one", x.vital(), 0b011100011);
        CHECK.is("the ROLL as it was", x.office(8), 0b111100001);
    }

    /** "1 if it was ahead by AGE or number alone, otherwise 0 (also if none was chosen)". */
    private static void outcomeBySeveral() {
        outcomeIs("alone with the most", voted(FOUR, 0, 0, 1), 0, 2, 3, 0, 0);
        outcomeIs("ahead by AGE", voted(FOUR, 0, 0, 1, 1), 1, 2, 4, 0, 1);
        outcomeIs("ahead by number", voted("office" + " replica 9 0;".repeat(4), 3, 3, 1, 1), 1, 2, 4, 0, 1);
        outcomeIs("ahead by AGE, fewer than LEAST", voted(FOUR + "least 3;", 0, 0, 1, 1), -1, 0, 4, 0, 0);
        outcomeIs("TIES 0", voted(FOUR + "ties 0;", 0, 0, 1, 1), -1, 0, 4, 0, 0);
        outcomeIs("alone with the most, fewer than LEAST", voted(FOUR + "least 3;", 0, 0, 1), -1, 0, 3, 0, 0);
        outcomeIs("alone with the most, TIES 0", voted(FOUR + "ties 0;", 3, 3, 1), 3, 2, 3, 0, 0);
        outcomeIs("others tie behind it", voted(FIVE, 3, 3, 1, 1, 3), 3, 3, 5, 0, 0);
        outcomeIs("nobody has a vote", Check.opened(FOUR + "call 0; seal 0 0; seal 1 0; seal 2 0; close; break 0 0 0; "
                + "break 1 0 0; break 2 0 0;"), -1, 0, 0, 3, 0);
    }

    private static void outcomeIs(String state, SealedBallots x, int chosen, int... due) {
        CHECK.is("count, " + state, x.count(), chosen < 0 ? 100 : chosen);
        CHECK.is("outcome(0, 0), " + state, x.outcome(0, 0), 1);
        CHECK.is("outcome(0, 1), " + state, x.outcome(0, 1), chosen);
        for (int i = 0; i < due.length; i++) {
            CHECK.is("outcome(0, " + (i + 2) + "), " + state, x.outcome(0, i + 2), due[i]);
            CHECK.is("outcome(1, " + (i + 2) + "), " + state, x.outcome(1, i + 2), -1);
        }
    }

    /** "NONE if none would be, or there is no ballot in the PHASE 2 or 3". */
    private static void aheadInEachPhase() {
        SealedBallots x = Check.opened(FOUR + "least 1;");
        aheadIs("no ballot", x, -1, -1);
        x.call(0);
        aheadIs("PHASE 1, none sealed", x, -1, -1);
        for (int r = 0; r < 4; r++) {
            x.vote(r, r % 2, 0);
        }
        aheadIs("PHASE 1, all sealed", x, -1, -1);
        x.close();
        aheadIs("PHASE 2, none broken", x, -1, -1);
        x.breakSeal(0, 0, 1);
        aheadIs("PHASE 2, one spoiled", x, -1, -1);
        x.breakSeal(1, 1, 0);
        aheadIs("PHASE 2, one valid", x, 1, 1);
        x.breakSeal(2, 0, 0);
        aheadIs("PHASE 2, a tie", x, 1, -1);
        x.breakSeal(3, 1, 0);
        aheadIs("PHASE 2, two to one", x, 1, 1);
        x.count();
        aheadIs("PHASE 3", x, 1, 1);
        x.recount(0);
        aheadIs("PHASE 2 again", x, 1, 1);
        x.breakSeal(0, 0, 0);
        aheadIs("PHASE 2 again, a tie", x, 1, -1);
        x.giveUp();
        aheadIs("given up", x, -1, -1);
    }

    private static void aheadIs(String state, SealedBallots x, int due, int withoutTies) {
        CHECK.is("ahead(), " + state, x.ahead(), due);
        CHECK.is("aheadIf(1, 1), " + state, x.aheadIf(1, 1), due);
        CHECK.is("aheadIf(1, 0), " + state, x.aheadIf(1, 0), withoutTies);
        CHECK.is("aheadIf(9, 1), " + state, x.aheadIf(9, 1), -1);
    }

    /** "false without a ballot in the PHASE 2". */
    private static void canWinInEachPhase() {
        SealedBallots x = Check.opened(FOUR + "recounts 3;");
        canWin("no ballot", x, 0, 0, 0, 0);
        x.call(0);
        for (int r = 0; r < 3; r++) {
            x.vote(r, 0, 0);
        }
        canWin("PHASE 1", x, 0, 0, 0, 0);
        x.close();
        canWin("PHASE 2", x, 1, 1, 1, 1);
        x.breakSeal(0, 0, 0);
        x.breakSeal(1, 0, 0);
        canWin("PHASE 2, one vote left", x, 1, 0, 0, 0);
        x.breakSeal(2, 0, 1);
        canWin("PHASE 2, no vote left", x, 1, 0, 0, 0);
        x.count();
        canWin("PHASE 3", x, 0, 0, 0, 0);
        x.recount(1);
        canWin("PHASE 2 of a recount", x, 1, 0, 0, 0);
        x.giveUp();
        canWin("given up", x, 0, 0, 0, 0);
    }

    private static void canWin(String state, SealedBallots x, int... due) {
        for (int r = 0; r < due.length; r++) {
            bits("canWin(" + r + "), " + state, x.canWin(r), due[r]);
        }
    }

    /** It has LEAST votes with those that are left, or one fewer. */
    private static void canWinAtLeast() {
        for (int least = 1; least <= 9; least++) {
            for (int broken = 0; broken <= 5; broken++) {
                StringBuilder text = new StringBuilder(NINE + "least " + least + "; call 0;");
                for (int r = 0; r < 7; r++) {
                    text.append("vote ").append(r).append(" 8 0;");
                }
                text.append("close;");
                for (int r = 0; r < broken; r++) {
                    text.append("break ").append(r).append(r < 2 ? " 8 1;" : " 8 0;");
                }
                int most = 7 - Math.min(broken, 2);
                SealedBallots x = Check.opened(text.toString());
                bits("canWin(8) with LEAST " + least + ", " + broken + " broken", x.canWin(8), most >= least ? 1 : 0);
                int left = 7 - broken;
                int has = broken - Math.min(broken, 2);
                boolean other = left >= least && left >= has;
                bits("canWin(7) with LEAST " + least + ", " + broken + " broken", x.canWin(7), other ? 1 : 0);
            }
        }
    }

    /** As many votes as another one has: by TIES, by AGE and by number. */
    private static void canWinAtATie() {
        String votes = "call 0; vote 0 2 0; vote 1 2 0; vote 3 4 0; vote 4 4 0; close; break 0 2 0; break 1 2 0;";
        String ages = "office replica 9 0; replica 8 0; replica 5 0; replica 5 0; replica 5 0; replica 4 0; "
                + "replica 6 0;";
        canWin("a tie by AGE and number", Check.opened(ages + votes), 1, 1, 1, 0, 0, 0, 1);
        canWin("a tie with TIES 0", Check.opened(ages + "ties 0;" + votes), 0, 0, 1, 0, 0, 0, 0);
        canWin("three left with TIES 0", Check.opened(ages + "ties 0;" + votes.replace("close", "vote 5 4 0; close")),
                1, 1, 1, 1, 1, 1, 1);
        canWin("one left", Check.opened(ages + votes + "break 3 4 0;"), 0, 0, 1, 0, 0, 0, 0);
    }

    /** "some votes that are sealed and not broken, of replicas that are reached"; "not ... spoiled (by ... 2 to 4)". */
    private static void canWinByWhatIsLeft() {
        String votes = "call 0; vote 0 1 0; vote 1 1 0; vote 2 1 0; vote 3 1 0; close;";
        canWin("four left", Check.opened(FIVE + "least 4;" + votes), 1, 1, 1, 1, 1);
        canWin("one is not reached", Check.opened(FIVE + "least 4;" + votes + "cut 0 3;"), 0, 0, 0, 0, 0);
        canWin("three are left", Check.opened(FIVE + "least 3;" + votes + "cut 0 3;"), 1, 1, 1, 1, 1);
        canWin("a voter is down", Check.opened(FIVE + "least 4;" + votes + "down 3;"), 0, 0, 0, 0, 0);
        canWin("one is spoiled", Check.opened(FIVE + "least 4;" + votes + "break 3 1 1;"), 0, 0, 0, 0, 0);
        canWin("one is valid", Check.opened(FIVE + "least 4;" + votes + "break 3 1 0;"), 0, 1, 0, 0, 0);
        canWin("the candidate is down", Check.opened(FIVE + "least 1;" + votes + "down 4;"), 1, 1, 1, 1, 0);
        canWin("the CALLER is down", Check.opened(FIVE + "least 1;" + votes + "down 0;"), 0, 0, 0, 0, 0);
        canWin("the CALLER is down, one is valid", Check.opened(FIVE + "least 1;" + votes + "break 3 1 0; down 0;"), 0,
                1, 0, 0, 0);
        canWin("one is not on the ROLL", Check.opened(FIVE + "least 1; down 4;" + votes + "up 4;"), 1, 1, 1, 1, 0);
        canWin("some are more FRESH", Check.opened("office replica 1 5; replica 1 4; replica 1 3; replica 1 2; "
                + "replica 1 1; least 3;" + votes), 1, 1, 0, 0, 0);
        canWin("some are more FRESH, LEAST 4", Check.opened("office replica 1 5; replica 1 4; replica 1 3; "
                + "replica 1 2; replica 1 1; least 4;" + votes), 1, 0, 0, 0, 0);
    }

    /** "NONE without a ballot, or if the voter is not on the ROLL": in each PHASE, whatever its vote is. */
    private static void wouldSpoilInEachPhase() {
        SealedBallots x = Check.opened("office replica 9 5; replica 9 4; replica 9 5; replica 9 9; down 3;");
        wouldSpoil("no ballot", x, -1, -1, -1);
        x.call(0);
        wouldSpoil("PHASE 1", x, 0, 3, 2);
        x.vote(0, 2, 0);
        x.vote(1, 2, 0);
        wouldSpoil("PHASE 1, sealed", x, 0, 3, 2);
        x.close();
        wouldSpoil("PHASE 2", x, 0, 3, 2);
        x.breakSeal(0, 2, 1);
        x.breakSeal(1, 2, 0);
        wouldSpoil("PHASE 2, spoiled", x, 0, 3, 2);
        x.count();
        wouldSpoil("PHASE 3", x, 0, 3, 2);
        x.setUp(3, true);
        wouldSpoil("one not on the ROLL came up", x, 0, 3, 2);
        x.setUp(2, false);
        wouldSpoil("the candidate is down", x, 4, 3, 2);
        x.setUp(0, false);
        wouldSpoil("the voter is down too", x, 4, 3, 2);
        x.giveUp();
        wouldSpoil("given up", x, -1, -1, -1);
    }

    private static void wouldSpoil(String state, SealedBallots x, int for2, int for1, int for3) {
        CHECK.is("wouldSpoil(0, 2), " + state, x.wouldSpoil(0, 2), for2);
        CHECK.is("wouldSpoil(0, 1), " + state, x.wouldSpoil(0, 1), for1);
        CHECK.is("wouldSpoil(0, 3), " + state, x.wouldSpoil(0, 3), for3);
        CHECK.is("wouldSpoil(3, 2), " + state, x.wouldSpoil(3, 2), -1);
    }

    /** "0 to 999"; "NONE if there is none, or the vote is not sealed". */
    private static void nonceForEachVote() {
        SealedBallots x = Check.opened(NINE + "call 0;");
        int step = 17 * 40503;
        int seal = x.sealFor(8, 0, 1);
        x.seal(0, seal);
        x.seal(1, seal - step & 65535);
        x.seal(2, x.sealFor(8, 999, 1));
        x.seal(3, x.sealFor(8, 999, 1) + step & 65535);
        x.seal(4, 0);
        x.seal(5, 65535);
        x.vote(6, 0, 500);
        int[] due = {0, -1, 999, -1, -1, -1, -1, -1, -1};
        for (int voter = 0; voter < 9; voter++) {
            if (voter != 4 && voter != 5) {
                CHECK.is("nonceFor(" + voter + ", 8)", x.nonceFor(voter, 8), due[voter]);
            }
        }
        CHECK.is("nonceFor(6, 0)", x.nonceFor(6, 0), 500);
        CHECK.is("nonceFor(7, 0) of a vote not sealed", x.nonceFor(7, 0), -1);
        for (int candidate = 0; candidate < 9; candidate++) {
            CHECK.is("nonceFor(4, " + candidate + ") of the number 0", x.nonceFor(4, candidate), fitting(0, candidate));
            CHECK.is("nonceFor(5, " + candidate + ") of the number 65535", x.nonceFor(5, candidate),
                    fitting(65535, candidate));
        }
        x.close();
        CHECK.is("nonceFor in the PHASE 2", x.nonceFor(2, 8), 999);
        x.breakSeal(2, 8, 999);
        x.breakSeal(0, 8, 1);
        CHECK.is("nonceFor of a valid vote", x.nonceFor(2, 8), -1);
        CHECK.is("nonceFor of a spoiled vote", x.nonceFor(0, 8), -1);
        x.giveUp();
        CHECK.is("nonceFor without a ballot", x.nonceFor(6, 0), -1);
    }

    private static int fitting(int number, int candidate) {
        for (int nonce = 0; nonce <= 999; nonce++) {
            if ((31L * candidate + 17L * nonce + 7 + 5) * 40503 % 65536 == number) {
                return nonce;
            }
        }
        return -1;
    }

    /** "that are up, and linked with so many that are up that the ROLL would be more than half of all". */
    private static void callersByLinks() {
        CHECK.is("one linked with one that is down", Check.opened(FIVE + "cut 0 1; cut 0 2; down 3;").callers(),
                0b10110);
        CHECK.is("one linked with two that are up", Check.opened(FIVE + "cut 0 1; cut 0 2;").callers(), 0b11111);
        CHECK.is("one linked with one that is up", Check.opened(FIVE + "cut 0 1; cut 0 2; cut 0 3;").callers(),
                0b11110);
        CHECK.is("the others are two", Check.opened(FOUR + "cut 0 1; down 2;").callers(), 0b1000);
        CHECK.is("though it called the ballot", Check.opened(FOUR + "call 0; cut 0 1; cut 0 2;").callers(), 0b1110);
        CHECK.is("one that is down and linked with all", Check.opened(FOUR + "down 3;").callers(), 0b0111);
    }

    /** "of those that are up; empty if none could now". */
    private static void vitalByLinks() {
        CHECK.is("a hub", Check.opened(FIVE + "cut 1 2; cut 1 3; cut 1 4; cut 2 3; cut 2 4; cut 3 4;").vital(), 1);
        CHECK.is("a hub with just enough", Check.opened(FIVE + "cut 1 2; cut 1 3; cut 1 4; cut 2 3; cut 2 4; cut 3 4; "
                + "down 3; down 4;").vital(), 0b00111);
        CHECK.is("two rings of three that share one", Check.opened(FIVE + "cut 0 3; cut 0 4; cut 1 3; cut 1 4;")
                .vital(), 0b00100);
        CHECK.is("one down that would be needed", Check.opened(FOUR + "down 0; down 1;").vital(), 0);
        CHECK.is("none could, though all are up", Check.opened("office replica 1 1; replica 1 1; cut 0 1;").vital(), 0);
    }

    /** "that could call a ballot now if there was none": the same in each PHASE, whoever is on the ROLL. */
    private static void callersAndVitalInEachPhase() {
        SealedBallots x = Check.opened(FOUR + "down 3;");
        callersAndVital("no ballot", x, 7, 7);
        x.call(0);
        callersAndVital("PHASE 1", x, 7, 7);
        x.vote(0, 1, 1);
        x.vote(1, 1, 1);
        x.close();
        callersAndVital("PHASE 2", x, 7, 7);
        x.setUp(3, true);
        callersAndVital("PHASE 2, one not on the ROLL came up", x, 15, 0);
        x.setLink(3, 1, false);
        x.setLink(3, 2, false);
        callersAndVital("PHASE 2, it is linked with one", x, 7, 1);
        x.breakSeal(0, 1, 1);
        x.breakSeal(1, 1, 1);
        x.count();
        callersAndVital("PHASE 3", x, 7, 1);
        x.setUp(2, false);
        callersAndVital("PHASE 3, one on the ROLL went down", x, 1, 11);
        x.recount(0);
        callersAndVital("a recount", x, 1, 11);
        x.giveUp();
        callersAndVital("given up", x, 1, 11);
    }

    private static void callersAndVital(String state, SealedBallots x, int callers, int vital) {
        CHECK.is("callers(), " + state, x.callers(), callers);
        CHECK.is("vital(), " + state, x.vital(), vital);
    }

    /** "(it is always 0)": in each PHASE, with replicas down, all down, links cut, and votes left sealed. */
    private static void gapInEachState() {
        String sealing = FOUR + "call 0; vote 0 1 1; vote 1 1 1; vote 2 3 1;";
        String[] states = {FOUR, FOUR + "call 0;", sealing, sealing + "close;", sealing + "close; break 0 1 1;",
            sealing + "close; break 0 1 2; down 3; break 1 1 1; break 2 3 1;",
            sealing + "close; break 0 1 1; break 1 1 2; down 2; count;",
            sealing + "close; break 0 1 1; break 1 1 2; down 2; count; up 2; recount 0;", sealing + "give;"};
        for (String state : states) {
            CHECK.is("gap() of " + state, Check.opened(state).gap(), 0);
            CHECK.is("gap(), links cut, of " + state, Check.opened(state + "cut 0 1; cut 0 2; cut 0 3;").gap(), 0);
            SealedBallots x = Check.opened(state);
            for (int r = 0; r < 4; r++) {
                x.setUp(r, false);
                CHECK.is("gap(), " + r + " went down, of " + state, x.gap(), 0);
            }
        }
    }

    private static void whyIs(String state, SealedBallots x, int replica, int reason, int cause) {
        CHECK.is("why(" + replica + ", 0), " + state, x.why(replica, 0), reason);
        CHECK.is("why(" + replica + ", 1), " + state, x.why(replica, 1), cause);
    }

    /** "the first that applies": two of the reasons at once. */
    private static void whyInItsOrder() {
        SealedBallots x = voted(FIVE + "down 4;", 1, 1, 1, 0);
        x.giveUp();
        whyIs("1 and 2", x, 0, 1, -1);
        whyIs("1 and 3", voted(FIVE + "down 4;", 1, 1, 1, 0), 4, 1, -1);
        whyIs("1, 2 and 3", x, 4, 1, -1);
        SealedBallots y = voted(FIVE + "down 4;", 1, 1, 1, 0);
        y.count();
        whyIs("3 alone", y, 4, 3, -1);
        whyIs("3, though it is up by now", up(y, 4), 4, 3, -1);
        whyIs("4 alone", y, 0, 4, 1);
        y.giveUp();
        whyIs("2 and 3", y, 4, 2, -1);
        whyIs("2 and 4", y, 0, 2, -1);
        whyIs("0, though 2 would apply", y, 1, 0, -1);
        SealedBallots z = voted(FIVE + "least 9;", 1, 1, 1, 0);
        z.count();
        whyIs("4 and 7", z, 0, 4, 1);
        whyIs("7 alone", z, 1, 7, 6);
        SealedBallots v = voted(FIVE + "least 9;", 1, 1, 0, 0);
        v.count();
        whyIs("5 and 7", v, 0, 5, 1);
        whyIs("7 of the one ahead by AGE", v, 1, 7, 7);
        SealedBallots w = voted(FIVE + "least 9; ties 0;", 1, 1, 0, 0);
        w.count();
        whyIs("6 and 7", w, 0, 6, 2);
        whyIs("6 and 7, of the elder one", w, 1, 6, 2);
        whyIs("4, 6 and 7", w, 4, 4, 0);
    }

    private static SealedBallots up(SealedBallots x, int replica) {
        x.setUp(replica, true);
        return x;
    }

    /** The most and the least that the causes can be. */
    private static void whyAtTheLimits() {
        SealedBallots x = voted(NINE + "ties 0; least 1;", 0, 1, 2, 3, 4, 5, 6, 7, 8);
        x.count();
        for (int r = 0; r < 9; r++) {
            whyIs("nine with as many", x, r, 6, 9);
        }
        SealedBallots y = voted(NINE + "least 1;", 0, 1, 2, 3, 4, 5, 6, 7, 8);
        y.count();
        for (int r = 0; r < 9; r++) {
            whyIs("nine with as many, TIES 1", y, r, r == 0 ? 0 : 5, r == 0 ? -1 : 0);
        }
        SealedBallots z = voted(NINE + "ties 0;", 8, 8, 7, 7, 6);
        z.count();
        whyIs("two with as many, TIES 0", z, 8, 6, 2);
        whyIs("the least of those with the most", z, 6, 4, 7);
        SealedBallots w = voted(NINE + "least 6;", 8, 8, 8, 8, 8);
        w.count();
        whyIs("it lacked one", w, 8, 7, 1);
        SealedBallots v = Check.opened(NINE + "least 9; call 0; seal 0 0; seal 1 0; seal 2 0; seal 3 0; seal 4 0; "
                + "close; break 0 0 0; break 1 0 0; break 2 0 0; break 3 0 0; break 4 0 0; count;");
        whyIs("it lacked nine", v, 0, 7, 9);
        whyIs("others had as many: none", v, 8, 5, 0);
    }

    /** "in the latest outcome that is kept", "by LEAST and TIES as they were at that count". */
    private static void whyOfTheLatest() {
        SealedBallots x = voted(FOUR, 0, 0, 1, 1);
        x.count();
        x.set(1, 0);
        x.set(0, 9);
        whyIs("TIES and LEAST are others by now", x, 0, 5, 1);
        whyIs("it was chosen", x, 1, 0, -1);
        x.undo();
        x.undo();
        x.recount(2);
        whyIs("kept no more", x, 1, 1, -1);
        x.set(1, 0);
        x.count();
        whyIs("counted again with TIES 0", x, 1, 6, 2);
        x.set(1, 1);
        whyIs("TIES is 1 again", x, 1, 6, 2);
        x.call(0);
        whyIs("another ballot", x, 1, 2, -1);
        x.undo();
        whyIs("that call undone", x, 1, 6, 2);
        x.keep(0);
        x.giveUp();
        whyIs("given up", x, 1, 2, -1);
        x.restore(0);
        whyIs("restored", x, 1, 6, 2);
        SealedBallots y = voted(FIVE, 0, 0, 1, 1, 2);
        y.count();
        y.set(1, 0);
        whyIs("the one ahead by AGE, as TIES was 1", y, 2, 4, 1);
        SealedBallots z = voted(FIVE + "ties 0;", 0, 0, 1, 1, 2);
        z.count();
        z.set(1, 1);
        whyIs("the least of those with the most, as TIES was 0", z, 2, 4, 0);
        // AGE and votes are those of the count, but what is FRESH or up by now is not asked for
        x.setFresh(0, 9);
        x.setUp(1, false);
        whyIs("one went down", x, 1, 6, 2);
    }

    /** "both converted to float and divided. ... 0.0f without a ballot". */
    private static void turnoutOfEachRoll() {
        for (int n = 2; n <= 9; n++) {
            for (int valid = 0; valid <= n; valid++) {
                StringBuilder text = new StringBuilder("office" + " replica 5 5;".repeat(n) + "call 0;");
                for (int r = 0; r < n; r++) {
                    text.append("vote ").append(r).append(" 0 0;");
                }
                text.append("close;");
                for (int r = 0; r < n; r++) {
                    text.append("break ").append(r).append(r < valid ? " 0 0;" : " 0 1;");
                }
                SealedBallots x = Check.opened(text.toString());
                CHECK.is("turnout of " + valid + " of " + n, Float.floatToRawIntBits(x.turnout()),
                        Float.floatToRawIntBits((float) valid / (float) n));
                x.giveUp();
                CHECK.is("turnout without a ballot", Float.floatToRawIntBits(x.turnout()), 0);
            }
        }
    }

    /** "the sum divided by their number, both converted to double. ... 0.0 if none is up". */
    private static void meanAgeOfEachNumber() {
        for (int n = 2; n <= 9; n++) {
            StringBuilder text = new StringBuilder("office");
            int sum = 0;
            for (int r = 0; r < n; r++) {
                int age = r % 2 == 0 ? 99 - r : 1 + r;
                sum += age;
                text.append(" replica ").append(age).append(" 5;");
            }
            SealedBallots x = Check.opened(text.toString());
            for (int up = n; up >= 0; up--) {
                double due = up == 0 ? 0.0 : (double) sum / (double) up;
                CHECK.is("meanAge of " + up + " of " + n, Double.doubleToRawLongBits(x.meanAge()),
                        Double.doubleToRawLongBits(due));
                if (up > 0) {
                    sum -= x.replica(up - 1, 0);
                    x.setUp(up - 1, false);
                }
            }
        }
    }

    /** Each sign, at the first and the last replica. */
    private static void reportOfEachState() {
        SealedBallots x = Check.opened(FIVE + "down 0; down 4;");
        reportIs("no ballot", x, "-----");
        x.call(1);
        reportIs("the first and the last are not on the ROLL", x, "-...-");
        x.giveUp();
        x.setUp(0, true);
        x.setUp(4, true);
        x.call(0);
        reportIs("none is sealed", x, ".....");
        x.vote(0, 4, 0);
        x.vote(4, 0, 0);
        reportIs("the first and the last are sealed", x, "#...#");
        x.seal(2, 0);
        x.close();
        reportIs("PHASE 2", x, "#.#.#");
        x.breakSeal(0, 4, 0);
        x.breakSeal(4, 0, 0);
        reportIs("the first and the last are valid", x, "4.#.0");
        x.breakSeal(2, 0, 0);
        x.count();
        reportIs("PHASE 3", x, "4.x.0");
        x.recount(1);
        reportIs("a recount", x, "4.#.0");
    }

    /** "a hash sign if it is sealed": in the PHASE 3 too, if it was not reached at the count. */
    private static void reportOfAVoteLeftSealed() {
        SealedBallots x = Check.opened(FOUR + "call 0; vote 0 1 1; vote 1 1 1; vote 2 1 1; vote 3 1 1; close; "
                + "break 0 1 1; break 1 1 2; down 2; cut 0 3; count;");
        reportIs("votes left sealed", x, "1x##");
        CHECK.is("what such a vote is", x.replica(2, 6), 1);
        CHECK.is("its candidate or reason", x.replica(2, 7), -1);
        CHECK.is("votes that are sealed and not broken", x.office(10), 2);
        CHECK.is("turnout", Float.floatToRawIntBits(x.turnout()), Float.floatToRawIntBits(1.0f / 4.0f));
        x.setUp(2, true);
        reportIs("votes left sealed, reached again", x, "1x##");
    }

    private static void reportIs(String state, SealedBallots x, String due) {
        CHECK.is("writeVotes(), " + state, x.writeVotes(), due.length());
        for (int index = 0; index < due.length(); index++) {
            CHECK.is("reportByte(" + index + "), " + state, x.reportByte(index), due.charAt(index));
        }
        CHECK.is("one more, " + state, x.reportByte(due.length()), -1);
        CHECK.is("one less, " + state, x.reportByte(-1), -1);
    }

    /** "a byte of the report that was written last": not of the votes as they are now. */
    private static void reportStays() {
        SealedBallots x = new SealedBallots();
        CHECK.is("nothing was written", x.reportByte(0), -1);
        x.close();
        x.breakSeal(0, 2, 11);
        x.writeVotes();
        String due = "2###.";
        Check.Deed[] deeds = {y -> y.breakSeal(1, 4, 12), y -> y.giveUp(), y -> y.undo(), y -> y.keep(0),
            y -> y.restore(0), y -> Check.load(y, FOUR), y -> y.load(), y -> y.call(0), y -> y.truncate(0)};
        for (int i = 0; i < deeds.length; i++) {
            deeds[i].on(x);
            for (int index = 0; index < 5; index++) {
                CHECK.is("the report after the call " + i, x.reportByte(index), due.charAt(index));
            }
        }
        CHECK.is("writeVotes() of four", x.writeVotes(), 4);
        CHECK.is("a byte of the report before", x.reportByte(4), -1);
    }
}
