/** What the deeds of "Terms, 3 DEEDS" do, at the edges: to whom, and to whom not. */
public final class EffectsTest {
    private static final String FOUR = "office replica 10 0; replica 20 0; replica 30 0; replica 40 0;";
    /** In TERM 1 replica 1 is chosen by all four; all know it as LEADER. */
    private static final String LED_BY_1 = FOUR + "call 0; vote 0 1 1; vote 1 1 1; vote 2 1 1; close; break 0 1 1; "
            + "break 1 1 1; break 2 1 1; count;";
    /** In TERM 2 replica 1 is chosen again, by a ROLL of 0, 1 and 2; 3 still knows it as LEADER of TERM 1. */
    private static final String LED_BY_1_AGAIN = LED_BY_1 + "cut 0 3; call 0; vote 0 1 1; vote 1 1 1; close; "
            + "break 0 1 1; break 1 1 1; count;";

    private static final Check CHECK = new Check("EffectsTest");

    private EffectsTest() {
    }

    public static void main(String[] args) {
        callGivesTerms();
        callForgetsLeaders();
        callForgetsVotes();
        closeAndBreakNothingElse();
        countTellsThoseReached();
        recountSealsAgain();
        recountBesideOneLeftSealed();
        recountForgetsOnTheRoll();
        recountsOfOneTerm();
        giveUpLeavesTheRest();
        goingDown();
        comingUp();
        linksForgetNobody();
        linksWithThoseThatAreDown();
        CHECK.end();
    }

    private static void leadersAre(String state, SealedBallots x, int... due) {
        for (int r = 0; r < due.length; r++) {
            CHECK.is("LEADER of " + r + ", " + state, x.replica(r, 4), due[r]);
        }
    }

    private static void termsAre(String state, SealedBallots x, int... due) {
        for (int r = 0; r < due.length; r++) {
            CHECK.is("TERM of " + r + ", " + state, x.replica(r, 3), due[r]);
        }
    }

    /** "1 more than the greatest TERM of these; they have it from then on": those on the ROLL alone. */
    private static void callGivesTerms() {
        SealedBallots x = Check.opened(FOUR + "down 3; call 0; give; call 1; give; up 3; cut 3 0;");
        termsAre("one was down", x, 2, 2, 2, 0);
        CHECK.is("call by the one who knew no TERM", x.call(3), 3);
        termsAre("one was cut off", x, 2, 3, 3, 3);
        CHECK.is("TERM of the ballot", x.office(6), 3);
        CHECK.is("giveUp", x.giveUp(), 3);
        termsAre("given up", x, 2, 3, 3, 3);
        CHECK.is("call by the one who was cut off", x.call(0), 4);
        termsAre("called by it", x, 4, 4, 4, 3);
        x.undo();
        termsAre("that call undone", x, 2, 3, 3, 3);
    }

    /** "and know no LEADER": those on the ROLL alone. */
    private static void callForgetsLeaders() {
        SealedBallots x = Check.opened(LED_BY_1);
        leadersAre("counted", x, 1, 1, 1, 1);
        x.setLink(2, 0, false);
        x.call(2);
        leadersAre("called without 0", x, 1, -1, -1, -1);
        SealedBallots y = Check.opened(LED_BY_1);
        y.call(3);
        leadersAre("called with all", y, -1, -1, -1, -1);
    }

    /** "No vote is sealed": neither one that was valid, nor spoiled, nor left sealed. */
    private static void callForgetsVotes() {
        SealedBallots x = Check.opened(FOUR + "recounts 3; call 0; vote 0 1 1; vote 1 1 1; vote 2 1 1; close; "
                + "break 0 1 1; break 1 1 2; down 2; count; recount 0; break 1 1 2; count; up 2; call 2;");
        for (int r = 0; r < 4; r++) {
            CHECK.is("the vote of " + r, x.replica(r, 6), 0);
            CHECK.is("its candidate or reason", x.replica(r, 7), -1);
            CHECK.is("valid votes for it", x.replica(r, 8), 0);
            CHECK.is("its NONCE", x.nonceFor(r, 1), -1);
        }
        for (int what = 10; what <= 13; what++) {
            CHECK.is("office(" + what + ")", x.office(what), 0);
        }
        CHECK.is("the CALLER", x.office(7), 2);
        CHECK.is("a seal by one whose vote was valid", x.seal(0, 1), 1);
        CHECK.is("a seal by one whose vote was spoiled", x.seal(1, 1), 2);
        CHECK.is("a seal by one whose vote was left sealed", x.seal(2, 1), 3);
    }

    private static void closeAndBreakNothingElse() {
        SealedBallots x = Check.opened(FOUR + "call 0; vote 0 1 1; vote 1 1 1; vote 2 1 1; close;");
        CHECK.is("sealed after close", x.office(10), 3);
        CHECK.is("valid after close", x.office(11), 0);
        CHECK.is("one who did not vote", x.replica(3, 6), 0);
        x.breakSeal(1, 1, 1);
        int[] due = {1, 2, 1, 0};
        for (int r = 0; r < 4; r++) {
            CHECK.is("the vote of " + r, x.replica(r, 6), due[r]);
        }
        CHECK.is("outcomes ahead of a count", x.office(14), 0);
    }

    /** "all replicas of the ROLL that are reached know the one who was chosen as LEADER (or none)". */
    private static void countTellsThoseReached() {
        String toCount = FOUR + "down 3; call 2; vote 0 1 1; vote 1 1 1; vote 2 1 1; close; break 0 1 1; break 1 1 1; "
                + "break 2 1 1;";
        String[] ahead = {"", "up 3;", "cut 2 0;", "cut 0 1;", "down 0;", "down 2;", "cut 2 1;", "down 1;"};
        int[][] due = {{1, 1, 1, -1}, {1, 1, 1, -1}, {-1, 1, 1, -1}, {1, 1, 1, -1}, {-1, 1, 1, -1}, {-1, -1, -1, -1},
            {1, -1, 1, -1}, {1, -1, 1, -1}};
        for (int i = 0; i < ahead.length; i++) {
            SealedBallots x = Check.opened(toCount + ahead[i]);
            CHECK.is("count [" + ahead[i] + "]", x.count(), 1);
            leadersAre("counted [" + ahead[i] + "]", x, due[i]);
            CHECK.is("the outcome [" + ahead[i] + "]", x.outcome(0, 1), 1);
        }
        SealedBallots y = Check.opened(toCount + "least 4;");
        CHECK.is("count, none chosen", y.count(), 100);
        leadersAre("none chosen", y, -1, -1, -1, -1);
    }

    /** "The votes that are spoiled by the reason 1 are sealed again (with the number that they had)": these alone. */
    private static void recountSealsAgain() {
        StringBuilder text = new StringBuilder("office" + " replica 5 5;".repeat(7) + "replica 5 4; replica 5 5; "
                + "down 8; recounts 3; call 0;");
        int[] candidates = {1, 1, 8, 7, 6, 1, 1, 1};
        for (int r = 0; r < 8; r++) {
            text.append("vote ").append(r).append(' ').append(candidates[r]).append(' ').append(100 + r).append(';');
        }
        text.append("close; down 6; break 0 1 100; break 1 1 100; break 2 8 102; break 3 7 103; break 4 6 104; "
                + "break 5 0 105; up 6; break 6 1 107; break 7 1 107; count;");
        SealedBallots x = Check.opened(text.toString());
        int[] was = {1, 1, 2, 3, 4, 1, 1, 1};
        CHECK.isSame("the votes ahead of it", Check.report(x), "1xxxxxx1-");
        for (int r = 1; r < 7; r++) {
            CHECK.is("the reason of " + r, x.replica(r, 7), was[r]);
        }
        CHECK.is("recount: votes sealed again", x.recount(7), 3);
        CHECK.isSame("the votes after it", Check.report(x), "1#xxx##1-");
        for (int r = 2; r < 5; r++) {
            CHECK.is("the reason of " + r + " after it", x.replica(r, 7), was[r]);
        }
        for (int r : new int[] {1, 5, 6}) {
            CHECK.is("neither candidate nor reason of " + r, x.replica(r, 7), -1);
            CHECK.is("the number that " + r + " had", x.nonceFor(r, 1), 100 + r);
        }
        CHECK.is("sealed votes", x.office(10), 3);
        CHECK.is("valid votes", x.office(11), 2);
        CHECK.is("spoiled votes", x.office(12), 3);
        CHECK.is("broken as it was sealed", x.breakSeal(1, 1, 101), 0);
        CHECK.is("broken wrong again", x.breakSeal(5, 1, 104), 1);
        CHECK.is("broken as it was sealed", x.breakSeal(6, 1, 106), 0);
        x.count();
        CHECK.is("recount of one vote", x.recount(7), 1);
        CHECK.isSame("the votes after it", Check.report(x), "11xxx#11-");
        x.breakSeal(5, 1, 105);
        x.count();
        CHECK.is("recount of no vote", x.recount(7), 0);
        CHECK.is("the PHASE of it", x.office(5), 2);
        CHECK.isSame("the votes after it", Check.report(x), "11xxx111-");
    }

    /** "Returns how many votes are sealed again": not those that were left sealed because they were not reached. */
    private static void recountBesideOneLeftSealed() {
        SealedBallots x = Check.opened(FOUR + "call 0; vote 0 1 1; vote 1 1 1; vote 2 1 1; vote 3 1 1; close; "
                + "break 0 1 1; break 1 1 2; down 3; break 2 1 1; count;");
        CHECK.is("recount of one, beside one left sealed", x.recount(0), 1);
        CHECK.is("sealed votes", x.office(10), 2);
        SealedBallots y = Check.opened(FOUR + "call 0; vote 0 1 1; vote 1 1 1; vote 2 1 1; close; break 0 1 1; "
                + "break 1 1 1; down 2; count;");
        CHECK.is("recount of none, beside one left sealed", y.recount(0), 0);
        CHECK.is("sealed votes", y.office(10), 1);
        y.setUp(2, true);
        CHECK.is("count while it is reached", y.count(), -12);
        CHECK.is("its seal is broken then", y.breakSeal(2, 1, 1), 0);
        CHECK.is("count", y.count(), 1);
        CHECK.is("its valid votes", y.outcome(0, 2), 3);
    }

    /** "the replicas of the ROLL that know the one who was chosen as LEADER know none": not those off the ROLL. */
    private static void recountForgetsOnTheRoll() {
        SealedBallots x = Check.opened(LED_BY_1_AGAIN + "cut 0 2; cut 1 2;");
        CHECK.is("the ROLL without 3", x.office(8), 7);
        leadersAre("3 knows 1 since TERM 1", x, 1, 1, 1, 1);
        CHECK.is("the outcomes", x.office(14), 2);
        x.recount(0);
        leadersAre("after the recount", x, -1, -1, -1, 1);
        CHECK.is("the outcome of TERM 2 is kept no more", x.office(14), 1);
        CHECK.is("that of TERM 1 is", x.outcome(0, 0), 1);
        x.count();
        leadersAre("counted again, 2 is not reached", x, 1, 1, -1, 1);

        SealedBallots z = Check.opened(LED_BY_1_AGAIN.replace("cut 0 3;", "cut 0 3; least 9;") + "recount 1;");
        leadersAre("recount where none was chosen", z, -1, -1, -1, 1);
    }

    /** "RECOUNTS recounts were asked for in this TERM": they are counted for the TERM, not for a count or an asker. */
    private static void recountsOfOneTerm() {
        for (int recounts = 0; recounts <= 3; recounts++) {
            SealedBallots x = Check.opened(LED_BY_1 + "recounts " + recounts + ";");
            for (int term = 1; term <= 2; term++) {
                for (int asked = 1; asked <= recounts; asked++) {
                    CHECK.is("recount " + asked + " of " + recounts, x.recount(asked == 2 ? 2 : 0), 0);
                    CHECK.is("office(13)", x.office(13), asked);
                    x.count();
                    CHECK.is("office(13) after the count", x.office(13), asked);
                }
                CHECK.is("one more than " + recounts, x.recount(3), -14);
                x.call(0);
                CHECK.is("office(13) in a new TERM", x.office(13), 0);
                for (int r = 0; r < 3; r++) {
                    x.vote(r, 1, 1);
                }
                x.close();
                for (int r = 0; r < 3; r++) {
                    x.breakSeal(r, 1, 1);
                }
                x.count();
            }
        }
    }

    /** "The PHASE is 0 (what was counted stays)." */
    private static void giveUpLeavesTheRest() {
        SealedBallots x = Check.opened(LED_BY_1);
        CHECK.is("giveUp", x.giveUp(), 1);
        leadersAre("given up", x, 1, 1, 1, 1);
        termsAre("given up", x, 1, 1, 1, 1);
        CHECK.is("outcomes", x.office(14), 1);
        CHECK.is("its chosen one", x.outcome(0, 1), 1);
        CHECK.is("why of the chosen one", x.why(1, 0), 0);
        CHECK.is("why of another", x.why(0, 0), 2);
        for (int r = 0; r < 4; r++) {
            CHECK.is("the vote of " + r, x.replica(r, 6), -1);
            CHECK.is("its candidate", x.replica(r, 7), -1);
            CHECK.is("valid votes for it", x.replica(r, 8), 0);
            CHECK.is("it is reached", x.replica(r, 9), 0);
        }
    }

    /** "One that goes down knows no LEADER; those that know it as LEADER, and are linked with it, know none either." */
    private static void goingDown() {
        for (int down = 0; down < 4; down++) {
            SealedBallots x = Check.opened(LED_BY_1);
            x.setUp(down, false);
            int[] due = {1, 1, 1, 1};
            due[down] = -1;
            leadersAre(down + " went down", x, down == 1 ? new int[] {-1, -1, -1, -1} : due);
            SealedBallots y = Check.opened(LED_BY_1 + "cut 1 0; cut 1 3;");
            y.setUp(down, false);
            leadersAre(down + " went down, 0 and 3 cut off from 1", y, down == 1 ? new int[] {1, -1, -1, 1} : due);
        }
        SealedBallots x = Check.opened(LED_BY_1 + "cut 0 3; call 0;");
        leadersAre("3 is not on the ROLL", x, -1, -1, -1, 1);
        x.setUp(1, false);
        leadersAre("the LEADER of one who is not on the ROLL went down", x, -1, -1, -1, -1);
        CHECK.is("the ballot goes on", x.office(5), 1);
        CHECK.is("the outcome is kept", x.office(14), 1);
    }

    /** One that comes up knows none, and nobody forgets it. */
    private static void comingUp() {
        SealedBallots x = Check.opened(LED_BY_1 + "cut 1 0; down 1; join 1 0;");
        leadersAre("0 was cut off when 1 went down", x, 1, -1, -1, -1);
        x.setUp(1, true);
        leadersAre("1 came up", x, 1, -1, -1, -1);
        x.setUp(0, false);
        x.setUp(0, true);
        leadersAre("0 went down and came up", x, -1, -1, -1, -1);
    }

    private static void linksForgetNobody() {
        SealedBallots x = Check.opened(LED_BY_1);
        x.setLink(1, 0, false);
        x.setLink(2, 1, false);
        leadersAre("cut off from the LEADER", x, 1, 1, 1, 1);
        x.setLink(1, 0, true);
        leadersAre("linked again", x, 1, 1, 1, 1);
        CHECK.is("links of 1", x.replica(1, 5), 0b1001);
        CHECK.is("links of 2", x.replica(2, 5), 0b1001);
    }

    /** "with how many others the first one is linked then": whether they are up or not, and it is up or not. */
    private static void linksWithThoseThatAreDown() {
        SealedBallots x = Check.opened(FOUR + "down 1; down 2;");
        CHECK.is("cut from one that is up", x.setLink(0, 3, false), 2);
        CHECK.is("cut from one that is down", x.setLink(0, 1, false), 1);
        CHECK.is("cut by one that is down", x.setLink(1, 2, false), 1);
        CHECK.is("join to one that is down", x.setLink(0, 1, true), 2);
        CHECK.is("join by one that is down", x.setLink(2, 1, true), 3);
        CHECK.is("others with which 0 is linked", x.replica(0, 5), 0b0110);
        CHECK.is("others with which 2 is linked", x.replica(2, 5), 0b1011);
    }
}
