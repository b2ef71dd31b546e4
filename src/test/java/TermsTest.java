/** The edges of "Terms, 1 REPLICAS" and "2 BALLOTS", each sentence by itself. */
public final class TermsTest {
    private static final String FOUR = "office replica 10 0; replica 20 0; replica 30 0; replica 40 0;";

    private static final Check CHECK = new Check("TermsTest");

    private TermsTest() {
    }

    public static void main(String[] args) {
        howManyReplicas();
        atFirst();
        linkedWithItself();
        phases();
        need();
        majority();
        vitalAtTheMajority();
        reached();
        rollIsFixed();
        seals();
        sealsOfEachTerm();
        termsGrow();
        spoiledByTheFirstReason();
        lessFresh();
        aheadAtACount();
        chosenWithLeast();
        CHECK.end();
    }

    /** Replicas of the same AGE and as FRESH, and the first of them up. */
    private static String office(int replicas, int up) {
        StringBuilder text = new StringBuilder("office" + " replica 5 5;".repeat(replicas));
        for (int r = up; r < replicas; r++) {
            text.append("down ").append(r).append(';');
        }
        return text.toString();
    }

    /** "There are 2 to 9 replicas, numbered from 0." */
    private static void howManyReplicas() {
        for (int n = 0; n <= 11; n++) {
            String text = office(n, n);
            SealedBallots x = new SealedBallots();
            int due = n < 2 ? Check.error(text.length(), 3) : n > 9 ? Check.error(6 + 9 * 13 + 1, 3) : n;
            CHECK.is("load() of " + n + " replicas", Check.load(x, text), due);
            CHECK.is("replicas then", x.office(0), due < 0 ? 5 : n);
        }
    }

    /** "AGE (1 to 99)", "FRESH so far (0 to 999)", "TERM (0 at first)", "linked ... (all are at first)", settings. */
    private static void atFirst() {
        for (int n = 2; n <= 9; n += 7) {
            SealedBallots x = Check.opened("office" + " replica 1 0; replica 99 999;".repeat(n / 2) + (n == 9
                    ? "replica 50 500;" : ""));
            for (int r = 0; r < n; r++) {
                boolean isLast = r == 8;
                CHECK.is("AGE of " + r, x.replica(r, 0), isLast ? 50 : r % 2 == 0 ? 1 : 99);
                CHECK.is("FRESH of " + r, x.replica(r, 1), isLast ? 500 : r % 2 == 0 ? 0 : 999);
                CHECK.is("it is up", x.replica(r, 2), 1);
                CHECK.is("TERM of " + r, x.replica(r, 3), 0);
                CHECK.is("LEADER of " + r, x.replica(r, 4), -1);
                CHECK.is("links of " + r, x.replica(r, 5), (1 << n) - 1 - (1 << r));
            }
            CHECK.is("LEAST at first", x.office(2), 2);
            CHECK.is("TIES at first", x.office(3), 1);
            CHECK.is("RECOUNTS at first", x.office(4), 1);
            CHECK.is("links that are cut at first", x.office(16), 0);
        }
    }

    /** "a replica is linked with itself": also when all its links are cut; it counts for its ROLL. */
    private static void linkedWithItself() {
        SealedBallots x = Check.opened("office replica 1 1; replica 2 2; cut 0 1;");
        for (int r = 0; r < 2; r++) {
            CHECK.isTrue("isLinked(" + r + ", " + r + ")", x.isLinked(r, r));
            CHECK.is("others with which it is linked", x.replica(r, 5), 0);
        }
        SealedBallots y = Check.opened(FOUR + "cut 3 0; call 3;");
        CHECK.is("the ROLL has the CALLER", y.office(8), 14);
        CHECK.is("it is reached by itself", y.replica(3, 9), 1);
        SealedBallots z = Check.opened(office(9, 9) + "cut 8 0; cut 8 1; cut 8 2; cut 8 3;");
        CHECK.is("the CALLER as the fifth of nine", z.call(8), 1);
        CHECK.is("its ROLL", z.office(8), 0b111110000);
    }

    /** "at most one ballot", "without a ballot the PHASE is 0". */
    private static void phases() {
        SealedBallots x = Check.opened(FOUR);
        CHECK.is("PHASE without a ballot", x.office(5), 0);
        x.call(3);
        CHECK.is("PHASE of a ballot that is called", x.office(5), 1);
        CHECK.is("another call", x.call(0), -2);
        CHECK.is("the CALLER is still", x.office(7), 3);
        for (int r = 0; r < 3; r++) {
            x.vote(r, 0, r);
        }
        CHECK.is("PHASE ahead of close", x.office(5), 1);
        x.close();
        CHECK.is("PHASE of a ballot that is closed", x.office(5), 2);
        for (int r = 0; r < 3; r++) {
            x.breakSeal(r, 0, r);
        }
        CHECK.is("PHASE ahead of count", x.office(5), 2);
        x.count();
        CHECK.is("PHASE of a ballot that is counted", x.office(5), 3);
        x.recount(1);
        CHECK.is("PHASE of a recount", x.office(5), 2);
        x.giveUp();
        CHECK.is("PHASE of a ballot that is given up", x.office(5), 0);
    }

    /** "NEED is half the size of the ROLL, rounded down, plus 1": of the ROLL, not of all replicas. */
    private static void need() {
        int[] due = {0, 0, 2, 2, 3, 3, 4, 4, 5, 5};
        for (int n = 2; n <= 9; n++) {
            for (int roll = n / 2 + 1; roll <= n; roll++) {
                SealedBallots x = Check.opened(office(n, roll) + "call 0;");
                CHECK.is("NEED of a ROLL of " + roll + " of " + n, x.office(9), due[roll]);
                for (int voter = 0; voter < due[roll] - 1; voter++) {
                    CHECK.is("seal", x.seal(voter, 1), voter + 1);
                }
                CHECK.is("close with one fewer than NEED of " + roll, x.close(), -9);
                x.seal(due[roll] - 1, 1);
                CHECK.is("close with NEED of " + roll, x.close(), due[roll]);
            }
        }
    }

    /** "4 the ROLL would not be more than half of all replicas"; callers() by the same number. */
    private static void majority() {
        for (int n = 2; n <= 9; n++) {
            for (int up = 1; up <= n; up++) {
                boolean isMore = 2 * up > n;
                SealedBallots x = Check.opened(office(n, up));
                CHECK.is("callers() with " + up + " of " + n + " up", x.callers(), isMore ? (1 << up) - 1 : 0);
                CHECK.is("call with " + up + " of " + n + " up", x.call(up - 1), isMore ? 1 : -4);
                CHECK.is("callers() after it", x.callers(), isMore ? (1 << up) - 1 : 0);

                SealedBallots y = Check.opened(office(n, n));
                for (int r = 0; r < n - up; r++) {
                    y.setLink(n - 1, r, false);
                }
                int others = 2 * (n - 1) > n ? (1 << n - 1) - 1 : n == up ? (1 << n - 1) - 1 : 0;
                CHECK.is("callers() with one linked with " + up + " of " + n, y.callers(),
                        n > 2 ? others | (isMore ? 1 << n - 1 : 0) : up == 2 ? 3 : 0);
                CHECK.is("call with links to " + up + " of " + n, y.call(n - 1), isMore ? 1 : -4);
            }
        }
    }

    /** "without each of which alone (if it went down) no replica could call a ballot"; "empty if none could now". */
    private static void vitalAtTheMajority() {
        for (int n = 2; n <= 9; n++) {
            for (int up = 0; up <= n; up++) {
                boolean isJustEnough = up == n / 2 + 1;
                CHECK.is("vital() with " + up + " of " + n + " up", Check.opened(office(n, up)).vital(),
                        isJustEnough ? (1 << up) - 1 : 0);
            }
        }
    }

    /** "A replica is reached if it is up, and the CALLER is up and linked with it": on the ROLL or not. */
    private static void reached() {
        String called = FOUR + "down 3; call 1;";
        reachedAre("as it was called", called, 1, 1, 1, 0);
        reachedAre("one not on the ROLL came up", called + "up 3;", 1, 1, 1, 1);
        reachedAre("one down", called + "down 0;", 0, 1, 1, 0);
        reachedAre("one cut off", called + "cut 2 1;", 1, 1, 0, 0);
        reachedAre("others cut off", called + "cut 0 2;", 1, 1, 1, 0);
        reachedAre("the CALLER down", called + "up 3; down 1;", 0, 0, 0, 0);
        reachedAre("the CALLER up again", called + "down 1; up 1;", 1, 1, 1, 0);
        reachedAre("the CALLER alone", called + "cut 1 0; cut 1 2; cut 1 3; up 3;", 0, 1, 0, 0);
        reachedAre("no ballot", FOUR, 0, 0, 0, 0);
        reachedAre("given up", called + "give;", 0, 0, 0, 0);
        String closed = called + "vote 0 0 1; vote 1 0 1; close;";
        reachedAre("PHASE 2", closed, 1, 1, 1, 0);
        reachedAre("PHASE 3", closed + "break 0 0 1; break 1 0 1; count; cut 1 0;", 0, 1, 1, 0);
    }

    private static void reachedAre(String state, String text, int... due) {
        SealedBallots x = Check.opened(text);
        for (int r = 0; r < due.length; r++) {
            CHECK.is("reached, " + state + ": " + r, x.replica(r, 9), due[r]);
        }
    }

    /** The ROLL and NEED are those of the call, whoever goes down or comes up later. */
    private static void rollIsFixed() {
        SealedBallots x = Check.opened(FOUR + "down 3; call 0; up 3; down 1; cut 0 2;");
        CHECK.is("the ROLL", x.office(8), 7);
        CHECK.is("NEED", x.office(9), 2);
        CHECK.is("the vote of one who went down", x.replica(1, 6), 0);
        CHECK.is("the vote of one who was cut off", x.replica(2, 6), 0);
        CHECK.is("the vote of one who came up", x.replica(3, 6), -1);
    }

    private static long sealOf(long candidate, long nonce, long term) {
        return (31 * candidate + 17 * nonce + 7 * term + 5) * 40503 % 65536;
    }

    /** "(31 * candidate + 17 * NONCE + 7 * TERM + 5) * 40503 modulo 65536", at the ends and where it wraps around. */
    private static void seals() {
        SealedBallots x = Check.opened(office(9, 9));
        CHECK.is("the product below 65536 * 4", x.sealFor(0, 0, 0), 202515 - 3 * 65536);
        CHECK.is("the greatest product", x.sealFor(8, 999, 9999), 87229L * 40503 % 65536);
        // 53020 is the greatest sum whose product an int holds
        CHECK.is("the last product that an int holds", x.sealFor(0, 6, 7559), 53020L * 40503 % 65536);
        CHECK.is("the first one that it does not hold", x.sealFor(0, 4, 7564), 53021L * 40503 % 65536);
        for (int candidate = 0; candidate <= 8; candidate += 8) {
            for (int nonce = 0; nonce <= 999; nonce += 333) {
                for (int term : new int[] {0, 1, 2, 4999, 5000, 7565, 7566, 9998, 9999}) {
                    int seal = x.sealFor(candidate, nonce, term);
                    CHECK.is("sealFor(" + candidate + ", " + nonce + ", " + term + ")", seal,
                            sealOf(candidate, nonce, term));
                    CHECK.isTrue("it is 0 to 65535", seal >= 0 && seal <= 65535);
                }
            }
        }
    }

    /** The TERM of the ballot is part of the SEAL with which vote() seals and breakSeal() breaks. */
    private static void sealsOfEachTerm() {
        StringBuilder text = new StringBuilder("office replica 5 5; replica 5 5; least 1; call 0;");
        for (int term = 1; term <= 40; term++) {
            SealedBallots x = Check.opened(text.toString());
            CHECK.is("the TERM", x.office(6), term);
            x.seal(0, (int) sealOf(1, 999, term));
            x.vote(1, 0, 0);
            CHECK.is("nonceFor(0, 1) in TERM " + term, x.nonceFor(0, 1), 999);
            CHECK.is("nonceFor(1, 0) in TERM " + term, x.nonceFor(1, 0), 0);
            CHECK.is("nonceFor(1, 1) in TERM " + term, x.nonceFor(1, 1), -1);
            x.close();
            CHECK.is("the greatest NONCE in TERM " + term, x.breakSeal(0, 1, 999), 0);
            CHECK.is("the least NONCE in TERM " + term, x.breakSeal(1, 0, 0), 0);
            text.append("give;call 0;");
        }
        SealedBallots y = Check.opened("office replica 5 5; replica 5 5; call 0;");
        y.seal(0, (int) sealOf(1, 5, 2));
        y.seal(1, (int) sealOf(1, 5, 0));
        y.close();
        CHECK.is("the seal of the next TERM", y.breakSeal(0, 1, 5), 1);
        CHECK.is("the seal of the TERM before", y.breakSeal(1, 1, 5), 1);
    }

    /** "terms grow": to the greatest TERM that an object reaches in its 512 calls, by call and giveUp in turn. */
    private static void termsGrow() {
        SealedBallots x = new SealedBallots();
        for (int term = 1; term <= 255; term++) {
            CHECK.is("giveUp in TERM " + term, x.giveUp(), term);
            CHECK.is("call after TERM " + term, x.call(term % 5), term + 1);
        }
        CHECK.is("TERM of the ballot", x.office(6), 256);
        CHECK.is("the greatest TERM of all", x.office(15), 256);

        SealedBallots y = Check.opened("office replica 5 5; replica 5 5;");
        for (int term = 1; term < 240; term++) {
            y.call(0);
            y.giveUp();
        }
        CHECK.is("call", y.call(1), 240);
        CHECK.is("vote", y.vote(0, 1, 999), 1);
        CHECK.is("seal with the SEAL of the TERM", y.seal(1, y.sealFor(1, 998, 240)), 2);
        y.close();
        CHECK.is("nonceFor", y.nonceFor(0, 1), 999);
        CHECK.is("breakSeal", y.breakSeal(0, 1, 999), 0);
        CHECK.is("breakSeal", y.breakSeal(1, 1, 998), 0);
        CHECK.is("count", y.count(), 1);
        CHECK.is("TERM of the outcome", y.outcome(0, 0), 240);
        CHECK.is("TERM of a replica", y.replica(0, 3), 240);
        CHECK.is("why", y.why(0, 0), 4);
        CHECK.is("gap", y.gap(), 0);
    }

    /**
     * "spoiled, by the first of these reasons": each alone, and each two and more of them. Candidate 1 can lead; 2 is
     * less FRESH; 3 goes down; 4 is less FRESH and goes down; 5 to 8 are the same, but are not on the ROLL.
     */
    private static void spoiledByTheFirstReason() {
        int[] fitting = {0, 0, 3, 4, 3, 2, 2, 2, 2};
        for (int candidate = 0; candidate <= 8; candidate++) {
            for (int wrong = 0; wrong <= 2; wrong++) {
                SealedBallots x = Check.opened("office replica 5 5; replica 5 5; replica 5 4; replica 5 5; replica 5 4;"
                        + "replica 5 5; replica 5 4; replica 5 5; replica 5 4; down 5; down 6; down 7; down 8; call 0;"
                        + "vote 0 " + candidate + " 7; vote 1 0 0; vote 2 0 0; close; down 3; down 4; up 5; up 6;");
                CHECK.is("wouldSpoil(0, " + candidate + ")", x.wouldSpoil(0, candidate), fitting[candidate]);
                int told = wrong == 2 ? (candidate + 1) % 9 : candidate;
                int due = wrong == 0 ? fitting[candidate] : 1;
                CHECK.is("breakSeal of a vote for " + candidate + ", wrong " + wrong,
                        x.breakSeal(0, told, wrong == 1 ? 8 : 7), due);
                CHECK.is("what the vote is", x.replica(0, 6), due == 0 ? 2 : 3);
                CHECK.is("its candidate or reason", x.replica(0, 7), due == 0 ? candidate : due);
                CHECK.is("valid votes for the candidate", x.replica(candidate, 8), due == 0 ? 1 : 0);
                CHECK.is("valid votes", x.office(11), due == 0 ? 1 : 0);
                CHECK.is("spoiled votes", x.office(12), due == 0 ? 0 : 1);
                CHECK.is("sealed votes", x.office(10), 2);
            }
        }
    }

    /** "3 the candidate is less FRESH than the voter": not if it is as FRESH. */
    private static void lessFresh() {
        int[][] fresh = {{0, 0}, {0, 1}, {1, 0}, {500, 499}, {500, 500}, {500, 501}, {999, 998}, {998, 999}, {999, 999},
            {999, 0}, {0, 999}};
        for (int[] pair : fresh) {
            SealedBallots x = Check.opened("office replica 5 " + pair[0] + "; replica 5 " + pair[1]
                    + "; call 0; vote 0 1 1; vote 1 1 1; close;");
            int due = pair[1] < pair[0] ? 3 : 0;
            CHECK.is("wouldSpoil by one " + pair[0] + " for one " + pair[1], x.wouldSpoil(0, 1), due);
            CHECK.is("breakSeal by one " + pair[0] + " for one " + pair[1], x.breakSeal(0, 1, 1), due);
            CHECK.is("breakSeal for itself", x.breakSeal(1, 1, 1), 0);
        }
    }

    /** The first replicas vote, each for the one told for it, and the others do not; all seals are broken. */
    private static SealedBallots voted(String office, int... candidates) {
        StringBuilder text = new StringBuilder(office + "call 0;");
        StringBuilder breaks = new StringBuilder("close;");
        for (int voter = 0; voter < candidates.length; voter++) {
            text.append("vote ").append(voter).append(' ').append(candidates[voter]).append(" 0;");
            breaks.append("break ").append(voter).append(' ').append(candidates[voter]).append(" 0;");
        }
        return Check.opened(text.append(breaks).toString());
    }

    private static void countIs(String state, SealedBallots x, int due) {
        CHECK.is("ahead(), " + state, x.ahead(), due == 100 ? -1 : due);
        CHECK.is("count(), " + state, x.count(), due);
        CHECK.is("ahead() after it, " + state, x.ahead(), due == 100 ? -1 : due);
        CHECK.is("outcome(0, 1), " + state, x.outcome(0, 1), due == 100 ? -1 : due);
    }

    /** "with TIES 1 the one of these with the greatest AGE, of several the least number; with TIES 0 none". */
    private static void aheadAtACount() {
        String ages = "office replica 50 0; replica 49 0; replica 51 0; replica 51 0; replica 99 0;";
        countIs("one vote more", voted(ages, 1, 1, 0, 1, 0), 1);
        countIs("one vote more, TIES 0", voted(ages + "ties 0;", 1, 1, 0, 1, 0), 1);
        countIs("as many, one year older", voted(ages, 1, 1, 0, 0), 0);
        countIs("as many, one year younger", voted(ages, 0, 0, 2, 2), 2);
        countIs("as many, TIES 0", voted(ages + "ties 0;", 0, 0, 2, 2), 100);
        countIs("as many, of the same AGE", voted(ages, 3, 3, 2, 2), 2);
        countIs("as many, of the same AGE, TIES 0", voted(ages + "ties 0;", 3, 3, 2, 2), 100);
        countIs("three with as many, two of the same AGE", voted(ages + "least 1;", 0, 2, 3), 2);
        countIs("three with as many, TIES 0", voted(ages + "least 1; ties 0;", 0, 2, 3), 100);
        countIs("the eldest one has fewer", voted(ages, 2, 2, 3, 3, 4), 2);
        countIs("the eldest one has as many", voted(ages + "least 1;", 0, 1, 2, 3, 4), 4);
        countIs("the last one has the most", voted(ages, 4, 4, 4), 4);
        countIs("the last two tie", voted("office" + " replica 5 5;".repeat(9), 8, 8, 7, 7, 6), 7);
    }

    /** "It is chosen if its valid votes are LEAST or more; otherwise none is." */
    private static void chosenWithLeast() {
        for (int least = 1; least <= 9; least++) {
            for (int votes = 5; votes <= 9; votes++) {
                int[] candidates = new int[votes];
                SealedBallots x = voted("office" + " replica 5 5;".repeat(9) + "least " + least + ";", candidates);
                for (int other = 1; other <= 9; other++) {
                    CHECK.is("aheadIf(" + other + ", 0) with " + votes + " votes", x.aheadIf(other, 0),
                            votes >= other ? 0 : -1);
                }
                countIs(votes + " votes with LEAST " + least, x, votes >= least ? 0 : 100);
                CHECK.is("its valid votes", x.outcome(0, 2), votes >= least ? votes : 0);
                CHECK.is("all valid votes", x.outcome(0, 3), votes);
                CHECK.is("what it lacked", x.why(0, 1), votes >= least ? -1 : least - votes);
            }
        }
        for (int least = 1; least <= 9; least++) {
            SealedBallots x = Check.opened(FOUR + "least " + least + "; call 0; seal 0 0; seal 1 0; seal 2 0; close; "
                    + "break 0 0 0; break 1 0 0; break 2 0 0;");
            countIs("no valid vote, LEAST " + least, x, 100);
            CHECK.is("the one ahead with no vote", x.why(3, 0), 7);
            CHECK.is("what it lacked", x.why(3, 1), least);
            CHECK.is("the others", x.why(0, 1), 3);
        }
    }
}
