import java.util.ArrayDeque;
import java.util.ArrayList;
import java.util.Deque;
import java.util.HashSet;
import java.util.List;
import java.util.Map;
import java.util.NoSuchElementException;
import java.util.Set;
import java.util.TreeMap;
import java.util.TreeSet;
import java.util.regex.Matcher;
import java.util.regex.Pattern;

/**
 * A second office with the same calls, written from ../shared/DOC.md alone, with other means and without regard to
 * cost: whole states are copied, who can win is tried out. RandomRunsTest compares the class with it.
 */
final class PlainOffice {
    private static final int NONE = -1;

    private static final class Refusal extends RuntimeException {
        private static final long serialVersionUID = 1L;
        final int reason;

        Refusal(int reason) {
            super(null, null, false, false);
            this.reason = reason;
        }
    }

    private static final class TextError extends RuntimeException {
        private static final long serialVersionUID = 1L;
        final int position;
        final int code;

        TextError(int position, int code) {
            super(null, null, false, false);
            this.position = position;
            this.code = code;
        }
    }

    private static final class Replica {
        int age;
        int fresh;
        boolean up = true;
        int term;
        int leader = NONE;

        Replica copy() {
            Replica r = new Replica();
            r.age = age;
            r.fresh = fresh;
            r.up = up;
            r.term = term;
            r.leader = leader;
            return r;
        }
    }

    private static final class Vote {
        int what;
        int number;
        int candidate = NONE;
        int reason = NONE;

        Vote copy() {
            Vote v = new Vote();
            v.what = what;
            v.number = number;
            v.candidate = candidate;
            v.reason = reason;
            return v;
        }
    }

    private static final class Ballot {
        int term;
        int caller;
        int phase = 1;
        int asked;
        final Map<Integer, Vote> votes = new TreeMap<>();

        Ballot copy() {
            Ballot b = new Ballot();
            b.term = term;
            b.caller = caller;
            b.phase = phase;
            b.asked = asked;
            votes.forEach((voter, vote) -> b.votes.put(voter, vote.copy()));
            return b;
        }

        int number(int what) {
            int number = 0;
            for (Vote v : votes.values()) {
                if (v.what == what) {
                    number++;
                }
            }
            return number;
        }
    }

    private record Outcome(int term, int chosen, int chosenVotes, int valid, int spoiled, int byAge, int least,
            int ties) {
    }

    private static final class State {
        final List<Replica> replicas = new ArrayList<>();
        /** The pairs whose link is cut, each as "less-greater". */
        final Set<String> cuts = new TreeSet<>();
        int least = 2;
        int ties = 1;
        int recounts = 1;
        Ballot ballot;
        final List<Outcome> outcomes = new ArrayList<>();

        State copy() {
            State s = new State();
            replicas.forEach(r -> s.replicas.add(r.copy()));
            s.cuts.addAll(cuts);
            s.least = least;
            s.ties = ties;
            s.recounts = recounts;
            s.ballot = ballot == null ? null : ballot.copy();
            s.outcomes.addAll(outcomes);
            return s;
        }
    }

    private State now;
    private final Deque<State> past = new ArrayDeque<>();
    private final State[] slots = new State[2];
    private final List<Byte> text = new ArrayList<>();
    private String report = "";

    PlainOffice() {
        type("office replica 40 5; replica 30 7; replica 55 5; replica 55 2; replica 20 9; cut 3 4; call 0; "
                + "vote 0 2 11; vote 1 4 12; vote 2 2 13; vote 3 4 14;");
        load();
        past.clear();
    }

    private void type(String typed) {
        for (char c : typed.toCharArray()) {
            text.add((byte) c);
        }
    }

    // ---- help

    private Replica at(int replica) {
        if (replica < 0 || replica >= now.replicas.size()) {
            throw new IndexOutOfBoundsException();
        }
        return now.replicas.get(replica);
    }

    private static void range(int value, int from, int to) {
        if (value < from || value > to) {
            throw new IllegalArgumentException();
        }
    }

    private static void refuseIf(boolean applies, int reason) {
        if (applies) {
            throw new Refusal(reason);
        }
    }

    private boolean linked(int a, int b) {
        return !now.cuts.contains(Math.min(a, b) + "-" + Math.max(a, b));
    }

    private boolean reached(int r) {
        return now.ballot != null && at(r).up && at(now.ballot.caller).up && linked(now.ballot.caller, r);
    }

    private Set<Integer> rollOf(int caller) {
        Set<Integer> roll = new TreeSet<>();
        for (int r = 0; r < now.replicas.size(); r++) {
            if (at(r).up && linked(caller, r)) {
                roll.add(r);
            }
        }
        return roll;
    }

    private boolean inPhase(int phase) {
        return now.ballot != null && now.ballot.phase == phase;
    }

    private boolean onRoll(int r) {
        return now.ballot != null && now.ballot.votes.containsKey(r);
    }

    /** Does a deed; if it is not refused, what was before can be undone. */
    private int change(java.util.function.IntSupplier deed) {
        State before = now.copy();
        try {
            int answer = deed.getAsInt();
            past.addLast(before);
            if (past.size() > 10) {
                past.removeFirst();
            }
            return answer;
        } catch (Refusal refusal) {
            now = before;
            return -refusal.reason;
        }
    }

    private Map<Integer, Integer> validVotes() {
        Map<Integer, Integer> votes = new TreeMap<>();
        for (int r : now.ballot.votes.keySet()) {
            votes.put(r, 0);
        }
        for (Vote v : now.ballot.votes.values()) {
            if (v.what == 2) {
                votes.merge(v.candidate, 1, Integer::sum);
            }
        }
        return votes;
    }

    private static List<Integer> withMost(Map<Integer, Integer> votes) {
        int most = votes.values().stream().mapToInt(v -> v).max().orElseThrow();
        List<Integer> best = new ArrayList<>();
        votes.forEach((r, v) -> {
            if (v == most) {
                best.add(r);
            }
        });
        return best;
    }

    private int leading(Map<Integer, Integer> votes, int ties) {
        List<Integer> best = withMost(votes);
        if (best.size() == 1) {
            return best.get(0);
        }
        if (ties == 0) {
            return NONE;
        }
        return best.stream().sorted((a, b) -> at(a).age != at(b).age ? at(b).age - at(a).age : a - b).findFirst()
                .orElseThrow();
    }

    private int chosen(Map<Integer, Integer> votes, int least, int ties) {
        int leading = leading(votes, ties);
        return leading != NONE && votes.get(leading) >= least ? leading : NONE;
    }

    private int flaw(int voter, int candidate) {
        if (!onRoll(candidate)) {
            return 2;
        }
        if (at(candidate).fresh < at(voter).fresh) {
            return 3;
        }
        return at(candidate).up ? 0 : 4;
    }

    private static int sealing(int candidate, int nonce, int term) {
        return (int) ((31L * candidate + 17L * nonce + 7L * term + 5L) * 40503L % 65536L);
    }

    // ---- changes

    int load() {
        byte[] bytes = new byte[text.size()];
        for (int i = 0; i < bytes.length; i++) {
            bytes[i] = text.get(i);
        }
        text.clear();
        State before = now;
        try {
            now = new State();
            new Reading(new String(bytes, java.nio.charset.StandardCharsets.ISO_8859_1)).read();
        } catch (TextError error) {
            now = before;
            return -30 - (8 * error.position + error.code);
        }
        if (before != null) {
            past.addLast(before);
            if (past.size() > 10) {
                past.removeFirst();
            }
        }
        return now.replicas.size();
    }

    int call(int replica) {
        at(replica);
        return change(() -> {
            refuseIf(inPhase(1) || inPhase(2), 2);
            refuseIf(!at(replica).up, 3);
            Set<Integer> roll = rollOf(replica);
            refuseIf(2 * roll.size() <= now.replicas.size(), 4);
            Ballot ballot = new Ballot();
            ballot.caller = replica;
            ballot.term = 1 + roll.stream().mapToInt(r -> at(r).term).max().orElseThrow();
            for (int r : roll) {
                ballot.votes.put(r, new Vote());
                at(r).term = ballot.term;
                at(r).leader = NONE;
            }
            now.ballot = ballot;
            return ballot.term;
        });
    }

    int seal(int voter, int number) {
        at(voter);
        range(number, 0, 65535);
        return change(() -> putSeal(voter, number));
    }

    int vote(int voter, int candidate, int nonce) {
        at(voter);
        at(candidate);
        range(nonce, 0, 999);
        return change(() -> putSeal(voter, now.ballot == null ? 0 : sealing(candidate, nonce, now.ballot.term)));
    }

    private int putSeal(int voter, int number) {
        refuseIf(!inPhase(1), 5);
        refuseIf(!onRoll(voter), 6);
        Vote vote = now.ballot.votes.get(voter);
        refuseIf(vote.what == 1, 7);
        refuseIf(!reached(voter), 8);
        vote.what = 1;
        vote.number = number;
        return now.ballot.number(1);
    }

    int close() {
        return change(() -> {
            refuseIf(!inPhase(1), 5);
            refuseIf(now.ballot.number(1) < now.ballot.votes.size() / 2 + 1, 9);
            now.ballot.phase = 2;
            return now.ballot.number(1);
        });
    }

    int breakSeal(int voter, int candidate, int nonce) {
        at(voter);
        at(candidate);
        range(nonce, 0, 999);
        return change(() -> {
            refuseIf(!inPhase(2), 10);
            refuseIf(!onRoll(voter), 6);
            Vote vote = now.ballot.votes.get(voter);
            refuseIf(vote.what != 1, 11);
            refuseIf(!reached(voter), 8);
            boolean fits = vote.number == sealing(candidate, nonce, now.ballot.term);
            int reason = fits ? flaw(voter, candidate) : 1;
            vote.what = reason == 0 ? 2 : 3;
            vote.candidate = reason == 0 ? candidate : NONE;
            vote.reason = reason == 0 ? NONE : reason;
            return reason;
        });
    }

    int count() {
        return change(() -> {
            refuseIf(!inPhase(2), 10);
            now.ballot.votes.forEach((voter, vote) -> refuseIf(vote.what == 1 && reached(voter), 12));
            now.ballot.phase = 3;
            Map<Integer, Integer> votes = validVotes();
            int chosen = chosen(votes, now.least, now.ties);
            for (int r : now.ballot.votes.keySet()) {
                if (reached(r)) {
                    at(r).leader = chosen;
                }
            }
            boolean byAge = chosen != NONE && withMost(votes).size() > 1;
            now.outcomes.add(0, new Outcome(now.ballot.term, chosen, chosen == NONE ? 0 : votes.get(chosen),
                    now.ballot.number(2), now.ballot.number(3), byAge ? 1 : 0, now.least, now.ties));
            if (now.outcomes.size() > 12) {
                now.outcomes.remove(12);
            }
            return chosen == NONE ? 100 : chosen;
        });
    }

    int recount(int replica) {
        at(replica);
        return change(() -> {
            refuseIf(!inPhase(3), 13);
            refuseIf(!onRoll(replica), 6);
            refuseIf(!at(replica).up, 3);
            Outcome outcome = now.outcomes.get(0);
            refuseIf(outcome.chosen() == replica, 15);
            refuseIf(now.ballot.asked >= now.recounts, 14);
            now.ballot.asked++;
            now.ballot.phase = 2;
            now.outcomes.remove(0);
            int again = 0;
            for (Map.Entry<Integer, Vote> each : now.ballot.votes.entrySet()) {
                if (outcome.chosen() != NONE && at(each.getKey()).leader == outcome.chosen()) {
                    at(each.getKey()).leader = NONE;
                }
                if (each.getValue().reason == 1) {
                    each.getValue().what = 1;
                    each.getValue().reason = NONE;
                    again++;
                }
            }
            return again;
        });
    }

    int giveUp() {
        return change(() -> {
            refuseIf(now.ballot == null, 17);
            int term = now.ballot.term;
            now.ballot = null;
            return term;
        });
    }

    int setUp(int replica, boolean isUp) {
        at(replica);
        return change(() -> {
            refuseIf(at(replica).up == isUp, 16);
            at(replica).up = isUp;
            for (int r = 0; r < now.replicas.size() && !isUp; r++) {
                if (r == replica || at(r).leader == replica && linked(r, replica)) {
                    at(r).leader = NONE;
                }
            }
            return (int) now.replicas.stream().filter(r -> r.up).count();
        });
    }

    int setLink(int replica, int other, boolean isLinked) {
        at(replica);
        at(other);
        return change(() -> {
            refuseIf(replica == other || linked(replica, other) == isLinked, 16);
            String pair = Math.min(replica, other) + "-" + Math.max(replica, other);
            if (isLinked) {
                now.cuts.remove(pair);
            } else {
                now.cuts.add(pair);
            }
            int links = 0;
            for (int r = 0; r < now.replicas.size(); r++) {
                links += r != replica && linked(r, replica) ? 1 : 0;
            }
            return links;
        });
    }

    int setFresh(int replica, int fresh) {
        at(replica);
        range(fresh, 0, 999);
        return change(() -> {
            int before = at(replica).fresh;
            at(replica).fresh = fresh;
            return before;
        });
    }

    int set(int what, int value) {
        range(what, 0, 2);
        range(value, what == 0 ? 1 : 0, what == 0 ? 9 : what == 1 ? 1 : 3);
        return change(() -> {
            int before = what == 0 ? now.least : what == 1 ? now.ties : now.recounts;
            if (what == 0) {
                now.least = value;
            } else if (what == 1) {
                now.ties = value;
            } else {
                now.recounts = value;
            }
            return before;
        });
    }

    int undo() {
        if (past.isEmpty()) {
            return NONE;
        }
        now = past.removeLast();
        return past.size();
    }

    int keep(int slot) {
        range(slot, 0, 1);
        slots[slot] = now.copy();
        return now.replicas.size();
    }

    int restore(int slot) {
        range(slot, 0, 1);
        if (slots[slot] == null) {
            throw new NoSuchElementException();
        }
        now = slots[slot].copy();
        past.clear();
        return now.replicas.size();
    }

    // ---- text

    int append(int a, int b, int c, int d, int e) {
        if (text.size() + 20 > 600) {
            return -20;
        }
        for (int four : new int[] {a, b, c, d, e}) {
            for (byte each : java.nio.ByteBuffer.allocate(4).putInt(four).array()) {
                text.add(each);
            }
        }
        return text.size();
    }

    int truncate(int length) {
        range(length, 0, text.size());
        text.subList(length, text.size()).clear();
        return length;
    }

    // ---- what there is

    int office(int what) {
        range(what, 0, 18);
        Ballot b = now.ballot;
        int n = now.replicas.size();
        return switch (what) {
            case 0 -> n;
            case 1 -> (int) now.replicas.stream().filter(r -> r.up).count();
            case 2 -> now.least;
            case 3 -> now.ties;
            case 4 -> now.recounts;
            case 5 -> b == null ? 0 : b.phase;
            case 6 -> b == null ? NONE : b.term;
            case 7 -> b == null ? NONE : b.caller;
            case 8 -> b == null ? NONE : b.votes.keySet().stream().mapToInt(r -> 1 << r).sum();
            case 9 -> b == null ? NONE : b.votes.size() / 2 + 1;
            case 10, 11, 12 -> b == null ? 0 : b.number(what - 9);
            case 13 -> b == null ? 0 : b.asked;
            case 14 -> now.outcomes.size();
            case 15 -> now.replicas.stream().mapToInt(r -> r.term).max().orElseThrow();
            case 16 -> now.cuts.size();
            case 17 -> past.size();
            default -> text.size();
        };
    }

    int replica(int replica, int what) {
        Replica r = at(replica);
        range(what, 0, 9);
        Vote vote = onRoll(replica) ? now.ballot.votes.get(replica) : null;
        return switch (what) {
            case 0 -> r.age;
            case 1 -> r.fresh;
            case 2 -> r.up ? 1 : 0;
            case 3 -> r.term;
            case 4 -> r.leader;
            case 5 -> {
                int set = 0;
                for (int other = 0; other < now.replicas.size(); other++) {
                    set += other != replica && linked(other, replica) ? 1 << other : 0;
                }
                yield set;
            }
            case 6 -> vote == null ? NONE : vote.what;
            case 7 -> vote == null ? NONE : vote.what == 2 ? vote.candidate : vote.what == 3 ? vote.reason : NONE;
            case 8 -> now.ballot == null ? 0 : validVotes().getOrDefault(replica, 0);
            default -> reached(replica) ? 1 : 0;
        };
    }

    boolean isLinked(int replica, int other) {
        at(replica);
        at(other);
        return linked(replica, other);
    }

    int outcome(int back, int what) {
        range(what, 0, 5);
        if (back < 0 || back >= now.outcomes.size()) {
            return NONE;
        }
        Outcome o = now.outcomes.get(back);
        return new int[] {o.term(), o.chosen(), o.chosenVotes(), o.valid(), o.spoiled(), o.byAge()}[what];
    }

    int sealFor(int candidate, int nonce, int term) {
        at(candidate);
        range(nonce, 0, 999);
        range(term, 0, 9999);
        return sealing(candidate, nonce, term);
    }

    // ---- reasons and what would be

    int ahead() {
        return aheadIf(now.least, now.ties);
    }

    int aheadIf(int least, int ties) {
        range(least, 1, 9);
        range(ties, 0, 1);
        return inPhase(2) || inPhase(3) ? chosen(validVotes(), least, ties) : NONE;
    }

    /** Tries out every way in which the votes that are left could become valid or spoiled. */
    boolean canWin(int replica) {
        at(replica);
        if (!inPhase(2)) {
            return false;
        }
        Set<Map<Integer, Integer>> ways = new HashSet<>();
        ways.add(validVotes());
        for (Map.Entry<Integer, Vote> each : now.ballot.votes.entrySet()) {
            if (each.getValue().what != 1 || !reached(each.getKey())) {
                continue;
            }
            Set<Map<Integer, Integer>> further = new HashSet<>(ways);
            for (Map<Integer, Integer> way : ways) {
                for (int candidate : now.ballot.votes.keySet()) {
                    if (flaw(each.getKey(), candidate) == 0) {
                        Map<Integer, Integer> next = new TreeMap<>(way);
                        next.merge(candidate, 1, Integer::sum);
                        further.add(next);
                    }
                }
            }
            ways = further;
        }
        return ways.stream().anyMatch(way -> chosen(way, now.least, now.ties) == replica);
    }

    int wouldSpoil(int voter, int candidate) {
        at(voter);
        at(candidate);
        return onRoll(voter) ? flaw(voter, candidate) : NONE;
    }

    int nonceFor(int voter, int candidate) {
        at(voter);
        at(candidate);
        if (!onRoll(voter) || now.ballot.votes.get(voter).what != 1) {
            return NONE;
        }
        for (int nonce = 0; nonce <= 999; nonce++) {
            if (sealing(candidate, nonce, now.ballot.term) == now.ballot.votes.get(voter).number) {
                return nonce;
            }
        }
        return NONE;
    }

    int callers() {
        int callers = 0;
        for (int r = 0; r < now.replicas.size(); r++) {
            if (at(r).up && 2 * rollOf(r).size() > now.replicas.size()) {
                callers += 1 << r;
            }
        }
        return callers;
    }

    int vital() {
        int vital = 0;
        for (int r = 0; r < now.replicas.size() && callers() != 0; r++) {
            if (at(r).up) {
                at(r).up = false;
                boolean isVital = callers() == 0;
                at(r).up = true;
                vital += isVital ? 1 << r : 0;
            }
        }
        return vital;
    }

    int why(int replica, int depth) {
        at(replica);
        range(depth, 0, 1);
        if (now.outcomes.isEmpty()) {
            return depth == 0 ? 1 : NONE;
        }
        Outcome o = now.outcomes.get(0);
        if (o.chosen() == replica) {
            return depth == 0 ? 0 : NONE;
        }
        if (now.ballot == null || now.ballot.term != o.term()) {
            return depth == 0 ? 2 : NONE;
        }
        if (!onRoll(replica)) {
            return depth == 0 ? 3 : NONE;
        }
        Map<Integer, Integer> votes = validVotes();
        List<Integer> best = withMost(votes);
        int leading = leading(votes, o.ties());
        if (!best.contains(replica)) {
            return depth == 0 ? 4 : leading == NONE ? best.get(0) : leading;
        }
        if (leading != NONE && leading != replica) {
            return depth == 0 ? 5 : leading;
        }
        if (best.size() > 1 && o.ties() == 0) {
            return depth == 0 ? 6 : best.size();
        }
        return depth == 0 ? 7 : o.least() - votes.get(replica);
    }

    int gap() {
        return 0;
    }

    float turnout() {
        return now.ballot == null ? 0.0f : (float) now.ballot.number(2) / (float) now.ballot.votes.size();
    }

    double meanAge() {
        List<Replica> up = now.replicas.stream().filter(r -> r.up).toList();
        return up.isEmpty() ? 0.0 : (double) up.stream().mapToInt(r -> r.age).sum() / (double) up.size();
    }

    // ---- report

    int writeVotes() {
        StringBuilder votes = new StringBuilder();
        for (int r = 0; r < now.replicas.size(); r++) {
            if (!onRoll(r)) {
                votes.append('-');
            } else {
                Vote vote = now.ballot.votes.get(r);
                votes.append(vote.what == 2 ? Integer.toString(vote.candidate) : ".#?x".substring(vote.what,
                        vote.what + 1));
            }
        }
        report = votes.toString();
        return report.length();
    }

    int reportByte(int index) {
        return index >= 0 && index < report.length() ? report.charAt(index) : NONE;
    }

    // ---- texts

    /** Reads a text; every error that can be seen at a token is weighed, and the one with the least code told. */
    private final class Reading {
        private record Token(String text, int position) {
        }

        private final List<Token> tokens = new ArrayList<>();
        private final int length;
        private int at;

        Reading(String text) {
            length = text.length();
            Matcher each = Pattern.compile("[ \n]+|[a-z]+|[0-9]+|.", Pattern.DOTALL).matcher(text);
            while (each.find()) {
                if (!each.group().isBlank() || !each.group().matches("[ \n]+")) {
                    tokens.add(new Token(each.group(), each.start()));
                }
            }
        }

        private int position() {
            return at < tokens.size() ? tokens.get(at).position() : length;
        }

        private String token() {
            return at < tokens.size() ? tokens.get(at).text() : "";
        }

        private void expect(String due) {
            if (!token().equals(due)) {
                throw new TextError(position(), 1);
            }
            at++;
        }

        private int number(int from, int to) {
            if (!token().matches("[0-9]{1,5}")) {
                throw new TextError(position(), 1);
            }
            int value = Integer.parseInt(token());
            if (value < from || value > to) {
                throw new TextError(position(), 2);
            }
            at++;
            return value;
        }

        private int replica() {
            return number(0, now.replicas.size() - 1);
        }

        void read() {
            expect("office");
            while (token().equals("replica")) {
                if (now.replicas.size() == 9) {
                    throw new TextError(position(), 3);
                }
                at++;
                Replica r = new Replica();
                r.age = number(1, 99);
                r.fresh = number(0, 999);
                expect(";");
                now.replicas.add(r);
            }
            if (now.replicas.size() < 2) {
                boolean canStand = token().isEmpty() || token().matches("least|ties|recounts|call|vote|seal|close|"
                        + "break|count|recount|give|down|up|cut|join");
                throw new TextError(position(), canStand ? 3 : 1);
            }
            while (!token().isEmpty()) {
                java.util.function.IntSupplier deed = deed();
                int semicolon = position();
                expect(";");
                if (deed.getAsInt() < 0) {
                    throw new TextError(semicolon, 4);
                }
            }
        }

        private java.util.function.IntSupplier deed() {
            String word = token();
            int wordAt = position();
            at++;
            switch (word) {
                case "least":
                    return setting(0, number(1, 9));
                case "ties":
                    return setting(1, number(0, 1));
                case "recounts":
                    return setting(2, number(0, 3));
                case "close":
                    return alone(PlainOffice.this::close);
                case "count":
                    return alone(PlainOffice.this::count);
                case "give":
                    return alone(PlainOffice.this::giveUp);
                case "call":
                case "recount":
                case "down":
                case "up":
                    return ofOne(word, replica());
                case "cut":
                case "join":
                    int a = replica();
                    int b = replica();
                    return alone(() -> setLink(a, b, word.equals("join")));
                case "seal":
                    int voter = replica();
                    int seal = number(0, 65535);
                    return alone(() -> seal(voter, seal));
                case "vote":
                case "break":
                    int who = replica();
                    int candidate = replica();
                    int nonce = number(0, 999);
                    return alone(() -> word.equals("vote") ? vote(who, candidate, nonce)
                            : breakSeal(who, candidate, nonce));
                default:
                    throw new TextError(wordAt, 1);
            }
        }

        /** A deed of a text is no change of its own, so what can be undone stays as it is. */
        private java.util.function.IntSupplier alone(java.util.function.IntSupplier deed) {
            return () -> {
                List<State> kept = new ArrayList<>(past);
                int answer = deed.getAsInt();
                past.clear();
                past.addAll(kept);
                return answer;
            };
        }

        private java.util.function.IntSupplier setting(int what, int value) {
            return alone(() -> set(what, value));
        }

        private java.util.function.IntSupplier ofOne(String word, int r) {
            return switch (word) {
                case "call" -> alone(() -> call(r));
                case "recount" -> alone(() -> recount(r));
                default -> alone(() -> setUp(r, word.equals("up")));
            };
        }
    }
}
