/**
 * The edges of "Terms, 5 CHANGES" (what is a change, the latest 10 of them, what undo() leaves), of undo, keep and
 * restore, and of the latest 12 outcomes.
 */
public final class HistoryTest {
    private static final String THREE = "office replica 10 0; replica 20 0; replica 30 0;";
    private static final String TO_COUNT = THREE + "call 0; vote 0 0 1; vote 1 0 2; vote 2 0 3; close; break 0 0 1; "
            + "break 1 0 2; break 2 0 4;";

    private static final Check CHECK = new Check("HistoryTest");

    private HistoryTest() {
    }

    public static void main(String[] args) {
        eachChange();
        noChange();
        changesThatMakeNoDifference();
        theLatestTen();
        theTenthAfterARefusal();
        roundAndRound();
        undoThenAnotherChange();
        whatUndoLeaves();
        loadIsUndone();
        loadEmptiesTheBuffer();
        loadReplacesAllButTheSlots();
        restoreAndUndo();
        slotsByThemselves();
        keepTakesACopy();
        theLatestTwelve();
        recountOfTheTwelfth();
        CHECK.end();
    }

    /** A deed on an object in a state: it is a change; undone, all is as it was. */
    private static void isChange(String call, String text, long due, Check.Deed deed) {
        SealedBallots x = Check.opened(text);
        CHECK.is("changes ahead of " + call, x.office(17), 1);
        CHECK.is(call, deed.on(x), due);
        CHECK.is("changes after " + call, x.office(17), 2);
        CHECK.is("undo of " + call, x.undo(), 1);
        CHECK.isSame("all after undo of " + call, Check.all(x), Check.all(Check.opened(text)));
    }

    /** "The methods from load() to set() are changes". */
    private static void eachChange() {
        String counted = TO_COUNT + "count;";
        isChange("load", THREE, 2, x -> Check.load(x, "office replica 1 1; replica 2 2;"));
        isChange("call", THREE, 1, x -> x.call(2));
        isChange("call in the PHASE 3", counted, 2, x -> x.call(2));
        isChange("seal", THREE + "call 0;", 1, x -> x.seal(2, 65535));
        isChange("vote", THREE + "call 0;", 1, x -> x.vote(2, 1, 999));
        isChange("close", THREE + "call 0; seal 0 1; seal 1 1;", 2, x -> x.close());
        isChange("breakSeal, valid", THREE + "call 0; vote 0 0 1; vote 1 0 2; close;", 0, x -> x.breakSeal(0, 0, 1));
        isChange("breakSeal, spoiled", THREE + "call 0; vote 0 0 1; vote 1 0 2; close;", 1, x -> x.breakSeal(0, 0, 2));
        isChange("count", TO_COUNT, 0, x -> x.count());
        isChange("count, none chosen", TO_COUNT + "least 9;", 100, x -> x.count());
        isChange("recount", counted, 1, x -> x.recount(2));
        isChange("giveUp", counted, 1, x -> x.giveUp());
        isChange("giveUp in the PHASE 1", THREE + "call 0;", 1, x -> x.giveUp());
        isChange("setUp to down", counted, 2, x -> x.setUp(0, false));
        isChange("setUp to up", counted + "down 1;", 3, x -> x.setUp(1, true));
        isChange("setLink to cut", counted, 1, x -> x.setLink(0, 2, false));
        isChange("setLink to join", counted + "cut 0 2;", 2, x -> x.setLink(2, 0, true));
        isChange("setFresh", counted, 0, x -> x.setFresh(2, 999));
        isChange("set LEAST", counted, 2, x -> x.set(0, 9));
        isChange("set TIES", counted, 1, x -> x.set(1, 0));
        isChange("set RECOUNTS", counted, 1, x -> x.set(2, 0));
    }

    /** The other methods are none; nor is a change that is refused, returns an error or throws. */
    private static void noChange() {
        SealedBallots x = Check.opened(TO_COUNT);
        x.set(0, 1);
        Check.Deed[] deeds = {y -> y.keep(0), y -> y.keep(1), y -> y.append(1, 2, 3, 4, 5), y -> y.truncate(3),
            y -> y.office(0), y -> y.replica(0, 0), y -> y.isLinked(0, 1) ? 1 : 0, y -> y.outcome(0, 0),
            y -> y.sealFor(0, 0, 0), y -> y.ahead(), y -> y.aheadIf(1, 0), y -> y.canWin(0) ? 1 : 0,
            y -> y.wouldSpoil(0, 1), y -> y.nonceFor(0, 0), y -> y.callers(), y -> y.vital(), y -> y.why(0, 1),
            y -> y.gap(), y -> (long) y.turnout(), y -> (long) y.meanAge(), y -> y.writeVotes(), y -> y.reportByte(0),
            y -> y.load(), y -> Check.load(y, "office"), y -> Check.load(y, "office replica 1 1; replica 2 2; give;"),
            y -> y.call(0), y -> y.seal(0, 0), y -> y.vote(0, 0, 0), y -> y.close(), y -> y.breakSeal(0, 0, 1),
            y -> y.recount(0), y -> y.setUp(0, true), y -> y.setLink(0, 0, false)};
        String before = Check.all(x);
        for (int i = 0; i < deeds.length; i++) {
            deeds[i].on(x);
            CHECK.is("changes after the call " + i + " that is none", x.office(17), 2);
        }
        CHECK.throwsArgument("set(0, 0)", () -> x.set(0, 0));
        CHECK.throwsIndex("call(3)", () -> x.call(3));
        CHECK.is("changes after what threw", x.office(17), 2);
        CHECK.isSame("all after no change", Check.all(x), before);
        CHECK.is("undo of the change ahead of them", x.undo(), 1);
        CHECK.is("LEAST", x.office(2), 2);
    }

    /** "(also if nothing is different then)". */
    private static void changesThatMakeNoDifference() {
        SealedBallots x = Check.opened(THREE);
        CHECK.is("setFresh as it is", x.setFresh(1, 0), 0);
        CHECK.is("changes", x.office(17), 2);
        CHECK.is("set LEAST as it is", x.set(0, 2), 2);
        CHECK.is("changes", x.office(17), 3);
        CHECK.is("set TIES as it is", x.set(1, 1), 1);
        CHECK.is("changes", x.office(17), 4);
        CHECK.is("set RECOUNTS as it is", x.set(2, 1), 1);
        CHECK.is("changes", x.office(17), 5);
        CHECK.is("load of the same", Check.load(x, THREE), 3);
        CHECK.is("changes", x.office(17), 6);
        for (int left = 5; left >= 0; left--) {
            CHECK.is("undo", x.undo(), left);
        }
        CHECK.is("undo of no more", x.undo(), -1);
        CHECK.is("the new object's replicas", x.office(0), 5);
    }

    /** "The latest 10 changes can be undone": the tenth and no more, after 9, 10, 11 and more changes. */
    private static void theLatestTen() {
        for (int changes = 0; changes <= 23; changes++) {
            SealedBallots x = new SealedBallots();
            for (int i = 1; i <= changes; i++) {
                x.setFresh(0, 100 + i);
                CHECK.is("changes that can be undone after " + i, x.office(17), Math.min(i, 10));
            }
            int most = Math.min(changes, 10);
            for (int undone = 1; undone <= most; undone++) {
                CHECK.is("undo " + undone + " of " + changes, x.undo(), most - undone);
                CHECK.is("office(17) after it", x.office(17), most - undone);
                int at = changes - undone;
                CHECK.is("FRESH after it", x.replica(0, 1), at == 0 ? 5 : 100 + at);
            }
            String before = Check.all(x);
            CHECK.is("undo of one more of " + changes, x.undo(), -1);
            CHECK.isSame("all after it", Check.all(x), before);
            CHECK.is("office(17) after it", x.office(17), 0);
        }
    }

    /** "A deed that is refused ... changes nothing", nor does a call that throws: not even the oldest change. */
    private static void theTenthAfterARefusal() {
        Check.Deed[] deeds = {x -> x.call(0), x -> x.seal(0, 1), x -> x.vote(0, 2, 1), x -> x.breakSeal(0, 2, 11),
            x -> x.count(), x -> x.recount(0), x -> x.setUp(0, true), x -> x.setLink(0, 1, true), x -> x.load(),
            x -> Check.load(x, THREE + "give;"), x -> x.keep(0), x -> x.writeVotes(), x -> x.append(0, 0, 0, 0, 0)};
        for (int changes = 9; changes <= 21; changes++) {
            SealedBallots x = new SealedBallots();
            for (int i = 1; i <= changes; i++) {
                x.setFresh(0, 100 + i);
                deeds[i % deeds.length].on(x);
            }
            for (Check.Deed deed : deeds) {
                deed.on(x);
            }
            CHECK.throwsArgument("set(0, 0)", () -> x.set(0, 0));
            CHECK.throwsIndex("call(5)", () -> x.call(5));
            CHECK.is("changes that can be undone", x.office(17), Math.min(changes, 10));
            for (int undone = 1; undone <= Math.min(changes, 10); undone++) {
                deeds[undone].on(x);
                CHECK.is("undo after refusals", x.undo(), Math.min(changes, 10) - undone);
                CHECK.is("FRESH after it", x.replica(0, 1), changes == undone ? 5 : 100 + changes - undone);
            }
            CHECK.is("undo of no more", x.undo(), -1);
        }
    }

    /** Changes and undos in turn, so that whatever holds the changes is gone round often. */
    private static void roundAndRound() {
        for (int forth = 1; forth <= 11; forth++) {
            for (int back = 0; back < forth && back <= 10; back++) {
                SealedBallots x = new SealedBallots();
                int[] values = new int[600];
                int now = 0;
                int can = 0;
                values[0] = 5;
                for (int round = 0; round < 8; round++) {
                    for (int i = 0; i < forth; i++) {
                        int value = round * 20 + i;
                        x.setFresh(0, value);
                        now++;
                        values[now] = value;
                        can = Math.min(can + 1, 10);
                    }
                    for (int i = 0; i < back; i++) {
                        can--;
                        now--;
                        CHECK.is("undo", x.undo(), can);
                        CHECK.is("FRESH after it", x.replica(0, 1), values[now]);
                    }
                }
                CHECK.is("changes that can be undone", x.office(17), can);
            }
        }
    }

    /** "the latest change that was not undone". */
    private static void undoThenAnotherChange() {
        SealedBallots x = new SealedBallots();
        x.set(0, 3);
        x.set(0, 4);
        x.set(0, 5);
        CHECK.is("undo", x.undo(), 2);
        CHECK.is("LEAST", x.office(2), 4);
        x.set(0, 6);
        CHECK.is("undo of the change after it", x.undo(), 2);
        CHECK.is("LEAST", x.office(2), 4);
        CHECK.is("undo of the one ahead of what was undone", x.undo(), 1);
        CHECK.is("LEAST", x.office(2), 3);
        CHECK.is("undo of the first", x.undo(), 0);
        CHECK.is("LEAST", x.office(2), 2);
        CHECK.is("undo of none", x.undo(), -1);
        CHECK.is("undo of none, again", x.undo(), -1);
        x.set(0, 7);
        CHECK.is("a change after it", x.office(17), 1);
    }

    /** "except the text buffer, the report, the slots and what can be undone". */
    private static void whatUndoLeaves() {
        SealedBallots x = Check.opened(TO_COUNT);
        x.keep(0);
        x.count();
        x.keep(1);
        x.writeVotes();
        x.append(0x6F666669, 0x63652072, 0x65706C69, 0x63612031, 0x20313B20);
        x.undo();
        CHECK.is("bytes in the text buffer", x.office(18), 20);
        CHECK.is("the report", x.reportByte(2), 'x');
        CHECK.is("the PHASE", x.office(5), 2);
        x.undo();
        CHECK.is("the report of another office", x.reportByte(2), 'x');
        CHECK.is("no byte of it more", x.reportByte(3), -1);
        CHECK.is("the text that was there, of one replica", x.load(), Check.error(20, 3));
        CHECK.is("a slot that was kept after what was undone", x.restore(1), 3);
        CHECK.is("its PHASE", x.office(5), 3);
        CHECK.is("a slot that was kept ahead of it", x.restore(0), 3);
        CHECK.is("its PHASE", x.office(5), 2);
    }

    /** A load() can be undone as each other change, and so can be what was done ahead of it. */
    private static void loadIsUndone() {
        SealedBallots x = new SealedBallots();
        for (int i = 1; i <= 9; i++) {
            x.setFresh(4, i);
        }
        Check.load(x, THREE);
        CHECK.is("changes after 9 and a load", x.office(17), 10);
        Check.load(x, TO_COUNT);
        CHECK.is("changes after 9 and two loads", x.office(17), 10);
        CHECK.is("undo of the second load", x.undo(), 9);
        CHECK.isSame("all after it", Check.all(x), Check.all(Check.opened(THREE)));
        CHECK.is("undo of the first load", x.undo(), 8);
        CHECK.is("replicas after it", x.office(0), 5);
        CHECK.is("FRESH after it", x.replica(4, 1), 9);
        for (int left = 7; left >= 0; left--) {
            CHECK.is("undo", x.undo(), left);
            CHECK.is("FRESH after it", x.replica(4, 1), left + 1);
        }
        CHECK.is("undo of no more", x.undo(), -1);
    }

    /** "load() always empties the text buffer", "The buffer is empty then in every case." */
    private static void loadEmptiesTheBuffer() {
        String[] texts = {"", " ", THREE, "office", THREE + "give;", THREE + "call 3;", "?", " ".repeat(600),
            "a".repeat(600), THREE + " ".repeat(600 - THREE.length())};
        for (String text : texts) {
            SealedBallots x = new SealedBallots();
            Check.type(x, text);
            CHECK.is("bytes ahead of load", x.office(18), text.length());
            x.load();
            CHECK.is("bytes after load of \"" + text + "\"", x.office(18), 0);
            CHECK.is("load of what is empty then", x.load(), -31);
            CHECK.is("append after it", x.append(0, 0, 0, 0, 0), 20);
        }
    }

    /** "which replaces everything but the slots": replicas, settings, ballot, TERMs, LEADERs, links and outcomes. */
    private static void loadReplacesAllButTheSlots() {
        SealedBallots x = Check.opened(TO_COUNT + "least 1; ties 0; recounts 3;");
        x.count();
        x.keep(0);
        x.call(0);
        x.setLink(0, 1, false);
        x.setUp(2, false);
        x.keep(1);
        Check.load(x, THREE);
        CHECK.isSame("all after a load", Check.all(x), Check.all(Check.opened(THREE)));
        CHECK.is("restore(1)", x.restore(1), 3);
        CHECK.is("links that are cut in the slot 1", x.office(16), 1);
        CHECK.is("restore(0)", x.restore(0), 3);
        CHECK.is("the outcome of the slot 0", x.outcome(0, 1), 0);
    }

    /** "nothing can be undone then": no change ahead of it, and it is none itself. */
    private static void restoreAndUndo() {
        for (int changes : new int[] {0, 1, 9, 10, 11}) {
            SealedBallots x = new SealedBallots();
            x.keep(0);
            for (int i = 0; i < changes; i++) {
                x.setFresh(0, 900 + i);
            }
            CHECK.is("restore(0) after " + changes + " changes", x.restore(0), 5);
            CHECK.is("office(17) after it", x.office(17), 0);
            CHECK.is("undo after it", x.undo(), -1);
            CHECK.isSame("all after it", Check.all(x), Check.all(new SealedBallots()));
        }
        SealedBallots x = new SealedBallots();
        x.keep(0);
        x.set(0, 3);
        x.restore(0);
        for (int i = 1; i <= 12; i++) {
            x.setFresh(0, i);
            CHECK.is("changes after a restore", x.office(17), Math.min(i, 10));
        }
        for (int left = 9; left >= 0; left--) {
            CHECK.is("undo", x.undo(), left);
        }
        CHECK.is("undo of no more", x.undo(), -1);
        CHECK.is("FRESH", x.replica(0, 1), 2);
    }

    /** The slots 0 and 1 keep by themselves; "in place of what was there"; "which keeps it". */
    private static void slotsByThemselves() {
        SealedBallots x = new SealedBallots();
        x.set(0, 3);
        CHECK.is("keep(0)", x.keep(0), 5);
        Check.load(x, THREE + "least 4;");
        CHECK.is("keep(1)", x.keep(1), 3);
        for (int turn = 0; turn < 3; turn++) {
            CHECK.is("restore(0)", x.restore(0), 5);
            CHECK.is("LEAST of the slot 0", x.office(2), 3);
            x.set(0, 9);
            CHECK.is("restore(1)", x.restore(1), 3);
            CHECK.is("LEAST of the slot 1", x.office(2), 4);
            x.set(0, 8);
        }
        x.keep(0);
        x.restore(1);
        CHECK.is("LEAST of the slot 1, when 0 was kept again", x.office(2), 4);
        CHECK.is("restore(0), kept again", x.restore(0), 3);
        CHECK.is("LEAST of the slot 0, kept again", x.office(2), 8);
    }

    /** All that undo() concerns is kept: later changes of each kind do not reach the slot, nor those before an undo. */
    private static void keepTakesACopy() {
        SealedBallots x = Check.opened(TO_COUNT);
        x.count();
        x.keep(1);
        x.recount(1);
        x.breakSeal(2, 0, 3);
        x.giveUp();
        x.setUp(1, false);
        x.setLink(0, 2, false);
        x.setFresh(2, 7);
        x.set(0, 1);
        x.set(1, 0);
        x.set(2, 3);
        x.call(0);
        x.restore(1);
        CHECK.isSame("all as it was kept", Check.all(x), Check.all(Check.opened(TO_COUNT + "count;")));
        x.setUp(0, false);
        x.undo();
        CHECK.isSame("all after a change and its undo", Check.all(x), Check.all(Check.opened(TO_COUNT + "count;")));
    }

    /** Two replicas of which 0 is chosen in each TERM; the votes it has are 1 or 2 by turns. */
    private static void oneTerm(SealedBallots x) {
        int term = x.call(0);
        x.vote(0, 0, 0);
        x.vote(1, 0, 0);
        x.close();
        x.breakSeal(0, 0, 0);
        x.breakSeal(1, 0, term % 2);
        x.count();
    }

    /** "The latest 12 outcomes are kept." */
    private static void theLatestTwelve() {
        for (int terms = 0; terms <= 26; terms++) {
            SealedBallots x = Check.opened("office replica 10 0; replica 20 0; least 1;");
            for (int term = 1; term <= terms; term++) {
                oneTerm(x);
            }
            int kept = Math.min(terms, 12);
            CHECK.is("outcomes after " + terms, x.office(14), kept);
            for (int back = 0; back <= 13; back++) {
                int term = terms - back;
                boolean isKept = back < kept;
                CHECK.is("TERM of the outcome " + back + " of " + terms, x.outcome(back, 0), isKept ? term : -1);
                CHECK.is("its valid votes", x.outcome(back, 2), isKept ? 2 - term % 2 : -1);
                CHECK.is("its spoiled votes", x.outcome(back, 4), isKept ? term % 2 : -1);
            }
            CHECK.is("gap", x.gap(), 0);
        }
    }

    /** "the outcome of the TERM is kept no more": that one alone; what is counted next is kept again. */
    private static void recountOfTheTwelfth() {
        for (int terms = 11; terms <= 14; terms++) {
            SealedBallots x = Check.opened("office replica 10 0; replica 20 0; least 1;");
            for (int term = 1; term <= terms; term++) {
                oneTerm(x);
            }
            int kept = Math.min(terms, 12) - 1;
            x.recount(1);
            CHECK.is("outcomes after a recount", x.office(14), kept);
            CHECK.is("the latest one", x.outcome(0, 0), terms - 1);
            CHECK.is("the oldest one", x.outcome(kept - 1, 0), terms - kept);
            CHECK.is("one more", x.outcome(kept, 0), -1);
            if (terms % 2 == 1) {
                x.breakSeal(1, 0, 0);
            }
            CHECK.is("count again", x.count(), 0);
            CHECK.is("outcomes then", x.office(14), kept + 1);
            CHECK.is("the latest one then", x.outcome(0, 0), terms);
            CHECK.is("its valid votes", x.outcome(0, 2), 2);
            CHECK.is("the oldest one then", x.outcome(kept, 0), terms - kept);
            x.undo();
            CHECK.is("outcomes after the undo of a count", x.office(14), kept);
            x.giveUp();
            CHECK.is("outcomes after giveUp", x.office(14), kept);
        }
    }
}
