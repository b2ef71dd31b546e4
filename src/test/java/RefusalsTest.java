/**
 * The deeds of "Terms, 3 DEEDS": each reason alone, and two or three at once, of which the first that the document
 * names is told; after each refusal all is as it was. Beside each reason stands the nearest case that is not refused.
 * Two reasons that cannot meet are told in README.md.
 */
public final class RefusalsTest {
    private static final String FOUR = "office replica 10 0; replica 20 0; replica 30 0; replica 40 0;";
    private static final String THREE_VOTES = "vote 0 1 1; vote 1 1 2; vote 2 1 3;";
    private static final String THREE_BROKEN = "break 0 1 1; break 1 1 2; break 2 1 3;";
    private static final String SEALING = FOUR + "call 0;" + THREE_VOTES;
    private static final String BREAKING = SEALING + "close;";
    private static final String COUNTED = BREAKING + THREE_BROKEN + "count;";

    /** The same, but replica 3 was down when the ballot was called, and is not on the ROLL. */
    private static final String WITHOUT_3 = FOUR + "down 3; call 0; up 3;";
    private static final String BREAKING_WITHOUT_3 = WITHOUT_3 + THREE_VOTES + "close;";
    private static final String COUNTED_WITHOUT_3 = BREAKING_WITHOUT_3 + THREE_BROKEN + "count;";

    /** Counted while the vote of replica 2 could not be broken; by now it is reached again. */
    private static final String COUNTED_WITHOUT_VOTE_2 = BREAKING
            + "break 0 1 1; break 1 1 2; cut 0 2; count; join 0 2;";

    private static final Check CHECK = new Check("RefusalsTest");

    private RefusalsTest() {
    }

    public static void main(String[] args) {
        call();
        seal();
        vote();
        close();
        breakSeal();
        breakSealOfTwo();
        count();
        recount();
        recountOfTwo();
        giveUp();
        setUp();
        setLink();
        CHECK.end();
    }

    private static void refuses(String call, String text, int reason, Check.Deed deed) {
        CHECK.refuses(call + " [" + text.substring(FOUR.length()) + "]", () -> Check.opened(text), reason, deed);
    }

    private static void answers(String call, String text, int due, Check.Deed deed) {
        CHECK.is(call + " [" + text.substring(FOUR.length()) + "]", deed.on(Check.opened(text)), due);
    }

    /** 2, 3, 4. */
    private static void call() {
        answers("call", FOUR, 1, x -> x.call(1));
        refuses("call: 2 alone, PHASE 1", FOUR + "call 0;", 2, x -> x.call(1));
        refuses("call: 2 alone, by the CALLER", FOUR + "call 0;", 2, x -> x.call(0));
        refuses("call: 2 alone, PHASE 2", BREAKING, 2, x -> x.call(1));
        answers("call in the PHASE 3", COUNTED, 2, x -> x.call(1));
        answers("call after giveUp", FOUR + "call 0; give;", 2, x -> x.call(1));
        refuses("call: 3 alone", FOUR + "down 3;", 3, x -> x.call(3));
        refuses("call: 3 alone, PHASE 3", COUNTED + "down 3;", 3, x -> x.call(3));
        answers("call by one who came up", FOUR + "down 3; up 3;", 1, x -> x.call(3));
        refuses("call: 4 alone, two down", FOUR + "down 2; down 3;", 4, x -> x.call(0));
        refuses("call: 4 alone, two cut off", FOUR + "cut 0 2; cut 0 3;", 4, x -> x.call(0));
        refuses("call: 4 alone, one down and one cut off", FOUR + "cut 0 2; down 3;", 4, x -> x.call(0));
        refuses("call: 4 alone, PHASE 3", COUNTED + "down 2; down 3;", 4, x -> x.call(0));
        answers("call with one down", FOUR + "down 3;", 1, x -> x.call(0));
        answers("call with one cut off", FOUR + "cut 0 3;", 1, x -> x.call(0));
        answers("call with one down and cut off", FOUR + "cut 0 3; down 3;", 1, x -> x.call(0));

        refuses("call: 2 and 3", FOUR + "call 0; down 3;", 2, x -> x.call(3));
        refuses("call: 2 and 3, PHASE 2", BREAKING + "down 3;", 2, x -> x.call(3));
        refuses("call: 2 and 4", FOUR + "call 0; cut 1 0; cut 1 2;", 2, x -> x.call(1));
        refuses("call: 2 and 4, PHASE 2", BREAKING + "cut 1 0; cut 1 2;", 2, x -> x.call(1));
        refuses("call: 3 and 4", FOUR + "down 2; down 3;", 3, x -> x.call(3));
        refuses("call: 3 and 4, cut off", FOUR + "cut 3 1; cut 3 2; down 3;", 3, x -> x.call(3));
        refuses("call: 2, 3 and 4", FOUR + "call 0; down 2; down 3;", 2, x -> x.call(3));
    }

    /** 5, 6, 7, 8. */
    private static void seal() {
        sealOrVote("seal", x -> x.seal(3, 7), x -> x.seal(2, 7), x -> x.seal(0, 7));
    }

    private static void vote() {
        sealOrVote("vote", x -> x.vote(3, 1, 7), x -> x.vote(2, 1, 7), x -> x.vote(0, 1, 7));
    }

    private static void sealOrVote(String call, Check.Deed by3, Check.Deed by2, Check.Deed by0) {
        answers(call, FOUR + "call 0;", 1, by3);
        refuses(call + ": 5 alone, without a ballot", FOUR, 5, by3);
        refuses(call + ": 5 alone, given up", FOUR + "call 0; give;", 5, by3);
        refuses(call + ": 5 alone, PHASE 2", BREAKING, 5, by3);
        refuses(call + ": 5 alone, PHASE 3", COUNTED, 5, by3);
        refuses(call + ": 6 alone", WITHOUT_3, 6, by3);
        answers(call + " by one on that ROLL", WITHOUT_3, 1, by2);
        refuses(call + ": 7 alone", FOUR + "call 0; seal 2 0;", 7, by2);
        answers(call + " when another's is sealed", FOUR + "call 0; seal 3 0;", 2, by2);
        refuses(call + ": 8 alone, it is down", FOUR + "call 0; down 2;", 8, by2);
        refuses(call + ": 8 alone, the CALLER is down", FOUR + "call 0; down 0;", 8, by2);
        refuses(call + ": 8 alone, it is cut off", FOUR + "call 0; cut 0 2;", 8, by2);
        refuses(call + ": 8 alone, the CALLER, which is down", FOUR + "call 0; down 0;", 8, by0);
        answers(call + " when it is cut off from others alone", FOUR + "call 0; cut 1 2; cut 3 2; down 1; down 3;", 1,
                by2);

        refuses(call + ": 5 and 6", BREAKING_WITHOUT_3, 5, by3);
        refuses(call + ": 5 and 6, PHASE 3", COUNTED_WITHOUT_3, 5, by3);
        refuses(call + ": 5 and 7", BREAKING, 5, by2);
        refuses(call + ": 5 and 8", BREAKING + "cut 0 3;", 5, by3);
        refuses(call + ": 5 and 8, without a ballot", FOUR + "down 3;", 5, by3);
        refuses(call + ": 5, 6 and 8", BREAKING_WITHOUT_3 + "down 3;", 5, by3);
        refuses(call + ": 5, 7 and 8", BREAKING + "down 2;", 5, by2);
        refuses(call + ": 6 and 8", FOUR + "down 3; call 0;", 6, by3);
        refuses(call + ": 6 and 8, cut off", WITHOUT_3 + "cut 0 3;", 6, by3);
        refuses(call + ": 6 and 8, the CALLER is down", WITHOUT_3 + "down 0;", 6, by3);
        refuses(call + ": 7 and 8", FOUR + "call 0; seal 2 0; down 2;", 7, by2);
        refuses(call + ": 7 and 8, cut off", FOUR + "call 0; seal 2 0; cut 0 2;", 7, by2);
        refuses(call + ": 7 and 8, the CALLER is down", FOUR + "call 0; seal 2 0; down 0;", 7, by2);
    }

    /** 5, 9. */
    private static void close() {
        refuses("close: 5 alone, PHASE 2", BREAKING, 5, x -> x.close());
        refuses("close: 9 alone, none sealed", FOUR + "call 0;", 9, x -> x.close());
        refuses("close: 9 alone, one sealed", FOUR + "call 0; vote 0 1 1;", 9, x -> x.close());
        refuses("close: 9 alone, one fewer than NEED", FOUR + "call 0; vote 0 1 1; vote 1 1 2;", 9, x -> x.close());
        answers("close with NEED votes", SEALING, 3, x -> x.close());
        answers("close with more than NEED votes", SEALING + "vote 3 1 4;", 4, x -> x.close());
        answers("close with NEED votes of replicas that are down", SEALING + "down 0; down 1;", 3, x -> x.close());
        answers("close with NEED votes of a smaller ROLL", WITHOUT_3 + "vote 0 1 1; vote 1 1 2;", 2, x -> x.close());
        refuses("close: 5 and 9, without a ballot", FOUR, 5, x -> x.close());
        refuses("close: 5 and 9, PHASE 2", BREAKING + "break 0 1 1;", 5, x -> x.close());
        refuses("close: 5 and 9, PHASE 3", COUNTED, 5, x -> x.close());
    }

    /** 10, 6, 11, 8. */
    private static void breakSeal() {
        Check.Deed of0 = x -> x.breakSeal(0, 1, 1);
        Check.Deed of2 = x -> x.breakSeal(2, 1, 3);
        Check.Deed of3 = x -> x.breakSeal(3, 1, 4);
        answers("breakSeal", BREAKING, 0, of2);
        refuses("breakSeal: 10 alone, PHASE 1", SEALING, 10, of2);
        refuses("breakSeal: 10 alone, PHASE 3", COUNTED_WITHOUT_VOTE_2, 10, of2);
        answers("breakSeal of that vote after a recount", COUNTED_WITHOUT_VOTE_2 + "recount 0;", 0, of2);
        refuses("breakSeal: 6", BREAKING_WITHOUT_3, 6, of3);
        refuses("breakSeal: 11 alone, never sealed", BREAKING, 11, of3);
        refuses("breakSeal: 11 alone, valid already", BREAKING + "break 0 1 1;", 11, of0);
        refuses("breakSeal: 11 alone, spoiled by 1 already", BREAKING + "break 0 1 2;", 11, of0);
        refuses("breakSeal: 11 alone, spoiled by 4 already", BREAKING + "down 1; break 0 1 1; up 1;", 11, of0);
        refuses("breakSeal: 8 alone, it is down", BREAKING + "down 2;", 8, of2);
        refuses("breakSeal: 8 alone, the CALLER is down", BREAKING + "down 0;", 8, of2);
        refuses("breakSeal: 8 alone, it is cut off", BREAKING + "cut 0 2;", 8, of2);
        refuses("breakSeal: 8 alone, the CALLER, which is down", BREAKING + "down 0;", 8, of0);
        answers("breakSeal when it is cut off from others alone", BREAKING + "cut 2 1; cut 2 3;", 0, of2);
    }

    private static void breakSealOfTwo() {
        Check.Deed of2 = x -> x.breakSeal(2, 1, 3);
        Check.Deed of3 = x -> x.breakSeal(3, 1, 4);
        refuses("breakSeal: 10 and 6, without a ballot", FOUR, 10, of3);
        refuses("breakSeal: 10 and 6, PHASE 1", WITHOUT_3, 10, of3);
        refuses("breakSeal: 10 and 6, PHASE 3", COUNTED_WITHOUT_3, 10, of3);
        refuses("breakSeal: 10 and 11, PHASE 1", SEALING, 10, of3);
        refuses("breakSeal: 10 and 11, PHASE 3", COUNTED, 10, of2);
        refuses("breakSeal: 10 and 8, PHASE 1", SEALING + "down 2;", 10, of2);
        refuses("breakSeal: 10 and 8, PHASE 3", COUNTED_WITHOUT_VOTE_2 + "down 2;", 10, of2);
        refuses("breakSeal: 6 and 8", BREAKING_WITHOUT_3 + "down 3;", 6, of3);
        refuses("breakSeal: 6 and 8, cut off", BREAKING_WITHOUT_3 + "cut 0 3;", 6, of3);
        refuses("breakSeal: 6 and 8, the CALLER is down", BREAKING_WITHOUT_3 + "down 0;", 6, of3);
        refuses("breakSeal: 11 and 8, never sealed and down", BREAKING + "down 3;", 11, of3);
        refuses("breakSeal: 11 and 8, never sealed and cut off", BREAKING + "cut 0 3;", 11, of3);
        refuses("breakSeal: 11 and 8, broken and down", BREAKING + "break 2 1 3; down 2;", 11, of2);
        refuses("breakSeal: 11 and 8, spoiled, the CALLER is down", BREAKING + "break 2 1 4; down 0;", 11, of2);
        refuses("breakSeal: 10, 6 and 8", WITHOUT_3 + "down 3;", 10, of3);
        refuses("breakSeal: 10, 11 and 8", SEALING + "down 3;", 10, of3);
    }

    /** 10, 12. */
    private static void count() {
        refuses("count: 10 alone, without a ballot", FOUR, 10, x -> x.count());
        refuses("count: 10 alone, given up", BREAKING + THREE_BROKEN + "give;", 10, x -> x.count());
        refuses("count: 10 alone, PHASE 1", FOUR + "call 0;", 10, x -> x.count());
        refuses("count: 10 alone, PHASE 3", COUNTED, 10, x -> x.count());
        refuses("count: 12 alone, three not broken", BREAKING, 12, x -> x.count());
        refuses("count: 12 alone, one not broken", BREAKING + "break 0 1 1; break 1 1 2;", 12, x -> x.count());
        refuses("count: 12 alone, that of the CALLER", BREAKING + "break 1 1 2; break 2 1 3;", 12, x -> x.count());
        refuses("count: 12 alone, others are not reached", BREAKING + "break 0 1 1; down 1;", 12, x -> x.count());
        answers("count when all are broken", BREAKING + THREE_BROKEN, 1, x -> x.count());
        answers("count when the last one is down", BREAKING + "break 0 1 1; break 1 1 2; down 2;", 1, x -> x.count());
        answers("count when the last one is cut off", BREAKING + "break 0 1 1; break 1 1 2; cut 0 2;", 1,
                x -> x.count());
        answers("count when the CALLER is down", BREAKING + "down 0;", 100, x -> x.count());
        refuses("count: 10 and 12, PHASE 1", SEALING, 10, x -> x.count());
        refuses("count: 10 and 12, PHASE 3", COUNTED_WITHOUT_VOTE_2, 10, x -> x.count());
    }

    /** 13, 6, 3, 15, 14. */
    private static void recount() {
        answers("recount", COUNTED, 0, x -> x.recount(0));
        answers("recount by one who has not voted", COUNTED, 0, x -> x.recount(3));
        refuses("recount: 13 alone, PHASE 1", SEALING, 13, x -> x.recount(0));
        refuses("recount: 13 alone, PHASE 2", BREAKING + THREE_BROKEN, 13, x -> x.recount(0));
        refuses("recount: 13, without a ballot", FOUR, 13, x -> x.recount(0));
        refuses("recount: 13, given up", COUNTED + "give;", 13, x -> x.recount(0));
        refuses("recount: 6 alone", COUNTED_WITHOUT_3, 6, x -> x.recount(3));
        refuses("recount: 3 alone", COUNTED + "down 3;", 3, x -> x.recount(3));
        refuses("recount: 3 alone, the CALLER", COUNTED + "down 0;", 3, x -> x.recount(0));
        answers("recount by one who came up", COUNTED + "down 3; up 3;", 0, x -> x.recount(3));
        answers("recount by one who is not reached", COUNTED + "cut 0 3;", 0, x -> x.recount(3));
        answers("recount with the CALLER down", COUNTED + "down 0;", 0, x -> x.recount(3));
        refuses("recount: 15 alone", COUNTED, 15, x -> x.recount(1));
        answers("recount by the one ahead, who was not chosen", FOUR + "least 4;" + COUNTED.substring(FOUR.length()), 0,
                x -> x.recount(1));
        refuses("recount: 14 alone", COUNTED + "recount 0; count;", 14, x -> x.recount(3));
        refuses("recount: 14 alone, RECOUNTS 0", COUNTED + "recounts 0;", 14, x -> x.recount(3));
        answers("recount 3 of 3", COUNTED + "recounts 3; recount 0; count; recount 0; count;", 0, x -> x.recount(3));
        refuses("recount: 14 alone, RECOUNTS 3", COUNTED + "recounts 3; recount 0; count; recount 0; count; recount 0; "
                + "count;", 14, x -> x.recount(3));
        refuses("recount: 14 alone, more were asked for", COUNTED + "recounts 3; recount 0; count; recount 0; count; "
                + "recounts 1;", 14, x -> x.recount(3));
    }

    /** 6 and 15 cannot meet: the one who was chosen is on the ROLL. */
    private static void recountOfTwo() {
        String asked = COUNTED_WITHOUT_3 + "recount 0; count;";
        refuses("recount: 13 and 6", WITHOUT_3, 13, x -> x.recount(3));
        refuses("recount: 13 and 6, PHASE 2", BREAKING_WITHOUT_3, 13, x -> x.recount(3));
        refuses("recount: 13 and 3", BREAKING + "down 3;", 13, x -> x.recount(3));
        refuses("recount: 13 and 3, without a ballot", FOUR + "down 3;", 13, x -> x.recount(3));
        refuses("recount: 13 and 15, given up", COUNTED + "give;", 13, x -> x.recount(1));
        refuses("recount: 13 and 15, called anew", COUNTED + "call 0;", 13, x -> x.recount(1));
        refuses("recount: 13 and 14", COUNTED + "recount 0;", 13, x -> x.recount(3));
        refuses("recount: 13 and 14, RECOUNTS 0", BREAKING + "recounts 0;", 13, x -> x.recount(3));
        refuses("recount: 6 and 3", COUNTED_WITHOUT_3 + "down 3;", 6, x -> x.recount(3));
        refuses("recount: 6 and 14", asked, 6, x -> x.recount(3));
        refuses("recount: 3 and 15", COUNTED + "down 1;", 3, x -> x.recount(1));
        refuses("recount: 3 and 14", asked + "down 2;", 3, x -> x.recount(2));
        refuses("recount: 15 and 14", asked, 15, x -> x.recount(1));
        refuses("recount: 6, 3 and 14", asked + "down 3;", 6, x -> x.recount(3));
        refuses("recount: 3, 15 and 14", asked + "down 1;", 3, x -> x.recount(1));
    }

    /** 17. */
    private static void giveUp() {
        refuses("giveUp: 17", FOUR, 17, x -> x.giveUp());
        refuses("giveUp: 17, given up", COUNTED + "give;", 17, x -> x.giveUp());
        answers("giveUp in the PHASE 1", FOUR + "call 0;", 1, x -> x.giveUp());
        answers("giveUp in the PHASE 2", BREAKING, 1, x -> x.giveUp());
        answers("giveUp in the PHASE 3", COUNTED, 1, x -> x.giveUp());
        answers("giveUp with the CALLER down", FOUR + "call 0; give; call 0; down 0;", 2, x -> x.giveUp());
    }

    /** 16. */
    private static void setUp() {
        for (int r = 0; r < 4; r++) {
            int replica = r;
            refuses("setUp: 16, up", FOUR, 16, x -> x.setUp(replica, true));
            refuses("setUp: 16, down", FOUR + "down " + r + ";", 16, x -> x.setUp(replica, false));
            answers("setUp to down", FOUR, 3, x -> x.setUp(replica, false));
            answers("setUp to up", FOUR + "down " + r + ";", 4, x -> x.setUp(replica, true));
        }
        String none = FOUR + "down 0; down 1; down 2; down 3;";
        refuses("setUp: 16, all down", none, 16, x -> x.setUp(3, false));
        answers("setUp of the first one up", none, 1, x -> x.setUp(3, true));
        answers("setUp of the last one up", FOUR + "down 0; down 1; down 2;", 0, x -> x.setUp(3, false));
    }

    /** 16 (also for a replica and itself). */
    private static void setLink() {
        for (int a = 0; a < 4; a++) {
            for (int b = 0; b < 4; b++) {
                int replica = a;
                int other = b;
                refuses("setLink: 16, join", FOUR, 16, x -> x.setLink(replica, other, true));
                if (a == b) {
                    refuses("setLink: 16, cut from itself", FOUR, 16, x -> x.setLink(replica, other, false));
                    continue;
                }
                String cut = FOUR + "cut " + b + " " + a + ";";
                refuses("setLink: 16, cut", cut, 16, x -> x.setLink(replica, other, false));
                answers("setLink to cut", FOUR, 2, x -> x.setLink(replica, other, false));
                answers("setLink to join", cut, 3, x -> x.setLink(replica, other, true));
            }
        }
    }
}
