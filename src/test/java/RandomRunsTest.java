import java.util.Random;

/** Runs of 512 calls, each answer compared with that of PlainOffice. The same runs are made each time. */
public final class RandomRunsTest {
    private static final int RUNS = 1500;
    private static final int CALLS = 512;

    private final Check check = new Check("RandomRunsTest");
    private final Random random;
    private final int run;
    private final SealedBallots x = new SealedBallots();
    private final PlainOffice y = new PlainOffice();
    private final int[] seen;
    private boolean differs;
    private int calls;

    private interface Answer {
        Object get();
    }

    private RandomRunsTest(int run, int[] seen) {
        this.run = run;
        this.random = new Random(run);
        this.seen = seen;
    }

    public static void main(String[] args) {
        Check all = new Check("RandomRunsTest");
        int[] seen = new int[200];
        for (int run = 0; run < RUNS; run++) {
            RandomRunsTest test = new RandomRunsTest(run, seen);
            all.isTrue("run " + run, test.isAsDue());
        }
        for (int reason = 2; reason <= 17; reason++) {
            all.isTrue("the runs meet the refusal " + reason, seen[reason] > 0);
        }
        for (int reason = 0; reason <= 7; reason++) {
            all.isTrue("the runs meet the answer " + reason + " of why", seen[100 + reason] > 0);
        }
        for (int code = 0; code <= 4; code++) {
            all.isTrue("the runs meet a text with the code " + code, seen[120 + code] > 0);
        }
        for (int reason = 0; reason <= 4; reason++) {
            all.isTrue("the runs meet a broken vote with the reason " + reason, seen[130 + reason] > 0);
        }
        all.isTrue("the runs meet 12 outcomes", seen[140] > 0);
        all.end();
    }

    private boolean isAsDue() {
        boolean loadsOften = run % 3 == 1;
        boolean goesFar = run % 3 == 2;
        if (goesFar) {
            openSmall();
        }
        while (calls < CALLS && !differs) {
            int kind = random.nextInt(100);
            if (goesFar ? kind < 75 : kind < 55) {
                step(goesFar ? 200 : 8);
            } else if (kind < 95 || goesFar) {
                ask();
            } else if (kind < 97 || loadsOften) {
                typeText();
                compare("load()", () -> noteLoad(x.load()), y::load);
            } else {
                anyChange();
            }
        }
        return !differs;
    }

    /** A small office, in which a ballot takes few calls, so that a run sees many outcomes. */
    private void openSmall() {
        String text = "office replica 30 0; replica 40 0;" + (random.nextBoolean() ? " replica 40 0;" : "")
                + (random.nextBoolean() ? " least 1;" : "");
        type(text.getBytes(java.nio.charset.StandardCharsets.ISO_8859_1), true);
        compare("load()", () -> noteLoad(x.load()), y::load);
    }

    private static Object answerOf(Answer call) {
        try {
            return call.get();
        } catch (RuntimeException e) {
            return e.getClass();
        }
    }

    /** Makes a call of both, unless the run has made all its calls: what later calls answer is free. */
    private void compare(String call, Answer got, Answer due) {
        if (calls == CALLS) {
            return;
        }
        calls++;
        Object answer = answerOf(got);
        Object dueAnswer = answerOf(due);
        check.isSame("run " + run + ": " + call, answer, dueAnswer);
        differs |= !answer.equals(dueAnswer);
    }

    private Object noteDeed(int answer) {
        if (answer <= -2 && answer >= -17) {
            seen[-answer]++;
        }
        return answer;
    }

    private Object noteLoad(int answer) {
        seen[120 + (answer < 0 ? (-30 - answer) % 8 : 0)]++;
        return answer;
    }

    private Object noteBreak(int answer) {
        if (answer >= 0) {
            seen[130 + answer]++;
        }
        return noteDeed(answer);
    }

    private Object noteWhy(int answer, int depth) {
        if (depth == 0) {
            seen[100 + answer]++;
        }
        return answer;
    }

    private Object noteOffice(int answer, int what) {
        if (what == 14 && answer == 12) {
            seen[140]++;
        }
        return answer;
    }

    /** A replica; now and then one that is none. */
    private int replica() {
        int n = y.office(0);
        return random.nextInt(30) == 0 ? random.nextInt(n + 4) - 2 : random.nextInt(n);
    }

    private int within(int from, int to) {
        int kind = random.nextInt(25);
        if (kind == 0) {
            return from - 1;
        }
        if (kind == 1) {
            return to + 1;
        }
        if (kind == 2) {
            return random.nextInt();
        }
        return kind == 3 ? from : kind == 4 ? to : from + random.nextInt(to - from + 1);
    }

    private int nonce() {
        return random.nextInt(4) == 0 ? within(0, 999) : random.nextInt(3);
    }

    /** A change that brings the ballot further, most of the time. */
    private void step(int straysOnceIn) {
        int phase = y.office(5);
        if (random.nextInt(straysOnceIn) == 0) {
            anyChange();
        } else if (phase == 1) {
            if (y.office(10) >= y.office(9) && random.nextInt(3) == 0) {
                close();
            } else {
                vote();
            }
        } else if (phase == 2) {
            if (random.nextInt(4) == 0) {
                count();
            } else {
                breakSeal();
            }
        } else if (phase == 3 && random.nextInt(3) == 0) {
            recount();
        } else {
            call();
        }
    }

    private void anyChange() {
        switch (random.nextInt(19)) {
            case 0 -> call();
            case 1 -> vote();
            case 2 -> seal();
            case 3 -> close();
            case 4 -> breakSeal();
            case 5 -> count();
            case 6 -> recount();
            case 7 -> compare("giveUp()", () -> noteDeed(x.giveUp()), y::giveUp);
            case 8, 9, 10 -> setUp();
            case 11, 12, 13 -> setLink();
            case 14 -> setFresh();
            case 15 -> set();
            case 16 -> undo();
            default -> keepOrRestore();
        }
    }

    private void call() {
        int r = replica();
        compare("call(" + r + ")", () -> noteDeed(x.call(r)), () -> y.call(r));
    }

    private void vote() {
        int voter = replica();
        int candidate = random.nextInt(3) == 0 ? 0 : replica();
        int nonce = nonce();
        compare("vote(" + voter + ", " + candidate + ", " + nonce + ")",
                () -> noteDeed(x.vote(voter, candidate, nonce)), () -> y.vote(voter, candidate, nonce));
    }

    private void seal() {
        int voter = replica();
        int number = within(0, 65535);
        compare("seal(" + voter + ", " + number + ")", () -> noteDeed(x.seal(voter, number)),
                () -> y.seal(voter, number));
    }

    private void close() {
        compare("close()", () -> noteDeed(x.close()), y::close);
    }

    private void breakSeal() {
        int voter = replica();
        int candidate = replica();
        int nonce = nonce();
        if (random.nextInt(5) > 0 && voter >= 0 && voter < y.office(0)) {
            for (int c = 0; c < y.office(0); c++) {
                int fitting = y.nonceFor(voter, c);
                if (fitting >= 0) {
                    candidate = c;
                    nonce = fitting;
                }
            }
        }
        int c = candidate;
        int n = nonce;
        compare("breakSeal(" + voter + ", " + c + ", " + n + ")", () -> noteBreak(x.breakSeal(voter, c, n)),
                () -> y.breakSeal(voter, c, n));
    }

    private void count() {
        compare("count()", () -> noteDeed(x.count()), y::count);
    }

    private void recount() {
        int r = replica();
        compare("recount(" + r + ")", () -> noteDeed(x.recount(r)), () -> y.recount(r));
    }

    private void setUp() {
        int r = replica();
        boolean isUp = random.nextInt(3) > 0;
        compare("setUp(" + r + ", " + isUp + ")", () -> noteDeed(x.setUp(r, isUp)), () -> y.setUp(r, isUp));
    }

    private void setLink() {
        int r = replica();
        int other = replica();
        boolean isLinked = random.nextInt(3) > 0;
        compare("setLink(" + r + ", " + other + ", " + isLinked + ")", () -> noteDeed(x.setLink(r, other, isLinked)),
                () -> y.setLink(r, other, isLinked));
    }

    private void setFresh() {
        int r = replica();
        int fresh = random.nextBoolean() ? within(0, 999) : random.nextInt(4);
        compare("setFresh(" + r + ", " + fresh + ")", () -> x.setFresh(r, fresh), () -> y.setFresh(r, fresh));
    }

    private void set() {
        int what = within(0, 2);
        int value = what == 0 ? within(1, 4) : what == 1 ? within(0, 1) : within(0, 3);
        compare("set(" + what + ", " + value + ")", () -> x.set(what, value), () -> y.set(what, value));
    }

    private void undo() {
        for (int times = random.nextInt(12); times >= 0; times--) {
            compare("undo()", x::undo, y::undo);
        }
    }

    private void keepOrRestore() {
        int slot = within(0, 1);
        if (random.nextInt(3) > 0) {
            compare("keep(" + slot + ")", () -> x.keep(slot), () -> y.keep(slot));
        } else {
            compare("restore(" + slot + ")", () -> x.restore(slot), () -> y.restore(slot));
        }
    }

    private void ask() {
        int a = replica();
        int b = replica();
        int depth = within(0, 1);
        int nonce = nonce();
        switch (random.nextInt(20)) {
            case 0, 1, 2 -> askOffice(within(0, 18));
            case 3, 4, 5 -> askReplica(a, within(0, 9));
            case 6 -> compare("isLinked(" + a + ", " + b + ")", () -> x.isLinked(a, b), () -> y.isLinked(a, b));
            case 7 -> askOutcome(random.nextInt(4) == 0 ? within(0, 12) : 0, within(0, 5));
            case 8 -> askSeal(a, nonce, within(0, 9999));
            case 9 -> compare("ahead()", x::ahead, y::ahead);
            case 10 -> askAheadIf(within(1, 4), within(0, 1));
            case 11 -> compare("canWin(" + a + ")", () -> x.canWin(a), () -> y.canWin(a));
            case 12 -> compare("wouldSpoil(" + a + ", " + b + ")", () -> x.wouldSpoil(a, b), () -> y.wouldSpoil(a, b));
            case 13 -> compare("nonceFor(" + a + ", " + b + ")", () -> x.nonceFor(a, b), () -> y.nonceFor(a, b));
            case 14 -> compare("callers()", x::callers, y::callers);
            case 15 -> compare("vital()", x::vital, y::vital);
            case 16, 17 -> compare("why(" + a + ", " + depth + ")", () -> noteWhy(x.why(a, depth), depth),
                    () -> y.why(a, depth));
            case 18 -> askFractions();
            default -> askReport(within(0, 8));
        }
    }

    private void askOffice(int what) {
        compare("office(" + what + ")", () -> noteOffice(x.office(what), what), () -> y.office(what));
    }

    private void askReplica(int r, int what) {
        compare("replica(" + r + ", " + what + ")", () -> x.replica(r, what), () -> y.replica(r, what));
    }

    private void askOutcome(int back, int what) {
        compare("outcome(" + back + ", " + what + ")", () -> x.outcome(back, what), () -> y.outcome(back, what));
    }

    private void askSeal(int r, int nonce, int term) {
        compare("sealFor(" + r + ", " + nonce + ", " + term + ")", () -> x.sealFor(r, nonce, term),
                () -> y.sealFor(r, nonce, term));
    }

    private void askAheadIf(int least, int ties) {
        compare("aheadIf(" + least + ", " + ties + ")", () -> x.aheadIf(least, ties), () -> y.aheadIf(least, ties));
    }

    private void askFractions() {
        compare("gap()", x::gap, y::gap);
        compare("turnout()", x::turnout, y::turnout);
        compare("meanAge()", x::meanAge, y::meanAge);
    }

    private void askReport(int index) {
        if (random.nextBoolean()) {
            compare("writeVotes()", x::writeVotes, y::writeVotes);
        }
        compare("reportByte(" + index + ")", () -> x.reportByte(index), () -> y.reportByte(index));
    }

    // ---- texts

    private void typeText() {
        byte[] bytes = randomText().getBytes(java.nio.charset.StandardCharsets.ISO_8859_1);
        type(bytes, random.nextInt(20) > 0);
    }

    /** Puts a text into both buffers, and cuts it to its length or not. */
    private void type(byte[] bytes, boolean isCut) {
        for (int i = 0; i < bytes.length; i += 20) {
            byte[] piece = java.util.Arrays.copyOfRange(bytes, i, i + 20);
            java.nio.IntBuffer fours = java.nio.ByteBuffer.wrap(piece).asIntBuffer();
            int[] f = {fours.get(0), fours.get(1), fours.get(2), fours.get(3), fours.get(4)};
            compare("append", () -> x.append(f[0], f[1], f[2], f[3], f[4]),
                    () -> y.append(f[0], f[1], f[2], f[3], f[4]));
        }
        if (isCut) {
            int length = Math.min(600, bytes.length);
            compare("truncate(" + length + ")", () -> x.truncate(length), () -> y.truncate(length));
        }
    }

    private String blank() {
        return random.nextInt(20) == 0 ? "\n  " : " ";
    }

    private String randomText() {
        int n = random.nextInt(40) == 0 ? random.nextInt(12) : 2 + random.nextInt(8);
        StringBuilder text = new StringBuilder("office");
        for (int r = 0; r < n; r++) {
            text.append(blank()).append("replica ").append(1 + random.nextInt(r % 2 == 0 ? 3 : 99)).append(blank());
            text.append(random.nextInt(r % 2 == 0 ? 3 : 1000)).append(";");
        }
        text.append(random.nextInt(3) == 0 ? "" : deedsThatFit(Math.max(2, n)));
        int deeds = random.nextInt(4) == 0 ? random.nextInt(5) : 0;
        for (int d = 0; d < deeds; d++) {
            text.append(randomDeed(Math.max(2, n)));
        }
        if (random.nextInt(5) == 0) {
            spoil(text);
        }
        return text.toString();
    }

    private String deedsThatFit(int n) {
        StringBuilder text = new StringBuilder();
        text.append(random.nextBoolean() ? " ties " + random.nextInt(2) + ";" : "");
        text.append(random.nextBoolean() ? " least " + (1 + random.nextInt(3)) + ";" : "");
        text.append(random.nextBoolean() ? " recounts " + random.nextInt(4) + ";" : "");
        int rounds = random.nextInt(3);
        for (int round = 0; round < rounds; round++) {
            text.append(" call ").append(random.nextInt(n)).append(";");
            StringBuilder breaks = new StringBuilder();
            for (int voter = 0; voter < n; voter++) {
                int candidate = random.nextInt(n);
                text.append("vote ").append(voter).append(" ").append(candidate).append(" 7;");
                breaks.append("break ").append(voter).append(" ").append(candidate);
                breaks.append(random.nextInt(6) == 0 ? " 8;" : " 7;");
            }
            text.append("close;").append(breaks).append("count;");
        }
        return text.toString();
    }

    private String randomDeed(int n) {
        String[] deeds = {"least N", "ties T", "recounts T", "call R", "vote R R N", "seal R N", "close", "break R R N",
            "count", "recount R", "give", "down R", "up R", "cut R R", "join R R"};
        StringBuilder deed = new StringBuilder(blank());
        for (char c : deeds[random.nextInt(deeds.length)].toCharArray()) {
            if (c == 'R') {
                deed.append(random.nextInt(random.nextInt(12) == 0 ? n + 2 : n));
            } else if (c == 'N') {
                deed.append(random.nextInt(random.nextInt(12) == 0 ? 99999 : 9));
            } else if (c == 'T') {
                deed.append(random.nextInt(3));
            } else {
                deed.append(c);
            }
        }
        return deed.append(";").toString();
    }

    /** Puts one byte wrong, takes one out or puts one in. */
    private void spoil(StringBuilder text) {
        int at = random.nextInt(text.length());
        String signs = " ;09aZ\t\n-replicavote" + (char) 233 + (char) 0;
        char sign = signs.charAt(random.nextInt(signs.length()));
        switch (random.nextInt(4)) {
            case 0 -> text.setCharAt(at, sign);
            case 1 -> text.deleteCharAt(at);
            case 2 -> text.insert(at, sign);
            default -> text.setLength(at);
        }
    }
}
