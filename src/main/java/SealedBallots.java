import java.util.NoSuchElementException;

/**
 * A ballot office of replicas: they call ballots, seal their votes and break all seals together; a leader is chosen
 * or none. ../shared/DOC.md says what every call answers; the words in capitals are its terms.
 */
public final class SealedBallots {
    public static final int NONE = -1;
    public static final int NO_ROOM = -20;

    private static final int FEWEST_REPLICAS = 2;
    private static final int MOST_REPLICAS = 9;
    private static final int MOST_OUTCOMES = 12;
    private static final int MOST_CHANGES = 10;
    private static final int MOST_BYTES = 600;
    private static final int BYTES_APPENDED = 20;
    private static final int SLOTS = 2;
    private static final int SETTINGS = 3;
    private static final int GREATEST_TERM_ASKED = 9999;
    private static final int NOBODY_CHOSEN = 100;

    // The kinds of numbers, each with its range; the first three are the settings, numbered as set() has them.
    private static final int LEAST = 0;
    private static final int TIES = 1;
    private static final int RECOUNTS = 2;
    private static final int NONCE = 3;
    private static final int SEAL = 4;
    private static final int AGE = 5;
    private static final int FRESH = 6;
    private static final int REPLICA = 7;
    private static final int[] LOWEST = {1, 0, 0, 0, 0, 1, 0, 0};
    private static final int[] HIGHEST = {9, 1, 3, 999, 65535, 99, 999, 8};
    private static final int[] FIRST_SETTINGS = {2, 1, 1};

    // The PHASEs of a ballot.
    private static final int NO_BALLOT = 0;
    private static final int SEALING = 1;
    private static final int BREAKING = 2;
    private static final int COUNTED = 3;

    // What a vote is.
    private static final int NOT_SEALED = 0;
    private static final int SEALED = 1;
    private static final int VALID = 2;
    private static final int SPOILED = 3;

    // Why a vote is spoiled.
    private static final int SEAL_MISFITS = 1;
    private static final int CANDIDATE_NOT_ON_ROLL = 2;
    private static final int CANDIDATE_LESS_FRESH = 3;
    private static final int CANDIDATE_DOWN = 4;

    // What a refused deed returns.
    private static final int BALLOT_UNDER_WAY = -2;
    private static final int REPLICA_DOWN = -3;
    private static final int ROLL_TOO_SMALL = -4;
    private static final int NO_SEALING = -5;
    private static final int NOT_ON_ROLL = -6;
    private static final int SEALED_ALREADY = -7;
    private static final int NOT_REACHED = -8;
    private static final int TOO_FEW_SEALED = -9;
    private static final int NO_BREAKING = -10;
    private static final int NOTHING_TO_BREAK = -11;
    private static final int SEALS_UNBROKEN = -12;
    private static final int NOT_COUNTED = -13;
    private static final int NO_RECOUNT_LEFT = -14;
    private static final int WAS_CHOSEN = -15;
    private static final int SO_ALREADY = -16;
    private static final int NO_BALLOT_THERE = -17;

    // The numbers of an outcome; outcome() tells those before COUNT_LEAST.
    private static final int TERM = 0;
    private static final int CHOSEN = 1;
    private static final int CHOSEN_VOTES = 2;
    private static final int VALID_VOTES = 3;
    private static final int SPOILED_VOTES = 4;
    private static final int BY_AGE = 5;
    private static final int COUNT_LEAST = 6;
    private static final int COUNT_TIES = 7;
    private static final int OUTCOME_NUMBERS = 8;

    // Why a replica was not chosen.
    private static final int IT_WAS_CHOSEN = 0;
    private static final int NO_OUTCOME = 1;
    private static final int BALLOT_GONE = 2;
    private static final int WAS_NOT_ON_ROLL = 3;
    private static final int ANOTHER_HAD_MORE = 4;
    private static final int ANOTHER_WENT_AHEAD = 5;
    private static final int SEVERAL_HAD_AS_MANY = 6;
    private static final int FEWER_THAN_LEAST = 7;

    // The codes of an error in a text.
    private static final int CANNOT_STAND = 1;
    private static final int OUT_OF_RANGE = 2;
    private static final int REPLICA_COUNT = 3;
    private static final int DEED_REFUSED = 4;

    private static final Deed[] DEEDS = Deed.values();

    private final Opener opener = new Opener();
    private final TextBuffer text = opener.text;
    private final Office now = new Office();
    private final Office draft = new Office();
    private final History history = new History();
    private final Office[] slots = new Office[SLOTS];
    private final byte[] report = new byte[MOST_REPLICAS];
    private int reportLength;

    public SealedBallots() {
        now.makeEmpty();
        now.addReplica(40, 5);
        now.addReplica(30, 7);
        now.addReplica(55, 5);
        now.addReplica(55, 2);
        now.addReplica(20, 9);
        now.changeLink(3, 4, false);
        now.callBallot(0);
        now.sealVote(0, 2, 11);
        now.sealVote(1, 4, 12);
        now.sealVote(2, 2, 13);
        now.sealVote(3, 4, 14);
    }

    // ---- changes

    public int load() {
        int answer = opener.open(draft);
        text.length = 0;
        if (answer < 0) {
            return answer;
        }
        history.note(now);
        now.copyFrom(draft);
        return settled(answer);
    }

    public int call(int replica) throws IndexOutOfBoundsException {
        needReplica(replica);
        history.note(now);
        return settled(now.callBallot(replica));
    }

    public int seal(int voter, int seal) throws IndexOutOfBoundsException, IllegalArgumentException {
        needReplica(voter);
        needKind(seal, SEAL);
        history.note(now);
        return settled(now.sealWith(voter, seal));
    }

    public int vote(int voter, int candidate, int nonce) throws IndexOutOfBoundsException, IllegalArgumentException {
        needReplica(voter);
        needReplica(candidate);
        needKind(nonce, NONCE);
        history.note(now);
        return settled(now.sealVote(voter, candidate, nonce));
    }

    public int close() {
        history.note(now);
        return settled(now.closeSealing());
    }

    public int breakSeal(int voter, int candidate, int nonce)
            throws IndexOutOfBoundsException, IllegalArgumentException {
        needReplica(voter);
        needReplica(candidate);
        needKind(nonce, NONCE);
        history.note(now);
        return settled(now.breakVote(voter, candidate, nonce));
    }

    public int count() {
        history.note(now);
        return settled(now.countVotes());
    }

    public int recount(int replica) throws IndexOutOfBoundsException {
        needReplica(replica);
        history.note(now);
        return settled(now.askRecount(replica));
    }

    public int giveUp() {
        history.note(now);
        return settled(now.giveBallotUp());
    }

    public int setUp(int replica, boolean isUp) throws IndexOutOfBoundsException {
        needReplica(replica);
        history.note(now);
        return settled(now.changeUp(replica, isUp));
    }

    public int setLink(int replica, int other, boolean isLinked) throws IndexOutOfBoundsException {
        needReplica(replica);
        needReplica(other);
        history.note(now);
        return settled(now.changeLink(replica, other, isLinked));
    }

    public int setFresh(int replica, int fresh) throws IndexOutOfBoundsException, IllegalArgumentException {
        needReplica(replica);
        needKind(fresh, FRESH);
        history.note(now);
        return settled(now.changeFresh(replica, fresh));
    }

    public int set(int what, int value) throws IllegalArgumentException {
        needBetween(what, LEAST, RECOUNTS);
        needKind(value, what);
        history.note(now);
        return settled(now.changeSetting(what, value));
    }

    public int undo() {
        return history.takeBack(now) ? history.size : NONE;
    }

    public int keep(int slot) throws IllegalArgumentException {
        needBetween(slot, 0, SLOTS - 1);
        Office kept = slots[slot];
        if (kept == null) {
            kept = new Office();
            slots[slot] = kept;
        }
        kept.copyFrom(now);
        return now.replicas;
    }

    public int restore(int slot) throws IllegalArgumentException, NoSuchElementException {
        needBetween(slot, 0, SLOTS - 1);
        Office kept = slots[slot];
        if (kept == null) {
            throw new NoSuchElementException("nothing was kept there");
        }
        now.copyFrom(kept);
        history.forget();
        return now.replicas;
    }

    // ---- text

    public int append(int a, int b, int c, int d, int e) {
        if (text.length + BYTES_APPENDED > MOST_BYTES) {
            return NO_ROOM;
        }
        text.putFour(a);
        text.putFour(b);
        text.putFour(c);
        text.putFour(d);
        text.putFour(e);
        return text.length;
    }

    public int truncate(int length) throws IllegalArgumentException {
        needBetween(length, 0, text.length);
        text.length = length;
        return length;
    }

    // ---- what there is

    public int office(int what) throws IllegalArgumentException {
        needBetween(what, 0, 18);
        if (what == 17) {
            return history.size;
        }
        if (what == 18) {
            return text.length;
        }
        return what >= 6 && what <= 13 ? now.ballot.tell(what) : now.tell(what);
    }

    public int replica(int replica, int what) throws IndexOutOfBoundsException, IllegalArgumentException {
        needReplica(replica);
        needBetween(what, 0, 9);
        return now.tellOf(replica, what);
    }

    public boolean isLinked(int replica, int other) throws IndexOutOfBoundsException {
        needReplica(replica);
        needReplica(other);
        return has(now.links[replica], other);
    }

    public int outcome(int back, int what) throws IllegalArgumentException {
        needBetween(what, TERM, BY_AGE);
        return now.outcomes.tell(back, what);
    }

    public int sealFor(int candidate, int nonce, int term) throws IndexOutOfBoundsException, IllegalArgumentException {
        needReplica(candidate);
        needKind(nonce, NONCE);
        needBetween(term, 0, GREATEST_TERM_ASKED);
        return sealNumber(candidate, nonce, term);
    }

    // ---- reasons and what would be

    public int ahead() {
        return now.chosenNow(now.settings[LEAST], now.settings[TIES]);
    }

    public int aheadIf(int least, int ties) throws IllegalArgumentException {
        needKind(least, LEAST);
        needKind(ties, TIES);
        return now.chosenNow(least, ties);
    }

    public boolean canWin(int replica) throws IndexOutOfBoundsException {
        needReplica(replica);
        return now.couldBeChosen(replica);
    }

    public int wouldSpoil(int voter, int candidate) throws IndexOutOfBoundsException {
        needReplica(voter);
        needReplica(candidate);
        return now.ballot.isOnRoll(voter) ? now.flawOf(voter, candidate) : NONE;
    }

    public int nonceFor(int voter, int candidate) throws IndexOutOfBoundsException {
        needReplica(voter);
        needReplica(candidate);
        return now.ballot.fittingNonce(voter, candidate);
    }

    public int callers() {
        return now.callersIf(now.upSet);
    }

    public int vital() {
        return now.vitalSet();
    }

    public int why(int replica, int depth) throws IndexOutOfBoundsException, IllegalArgumentException {
        needReplica(replica);
        needBetween(depth, 0, 1);
        return depth == 0 ? now.whyNotChosen(replica) : now.causeFor(replica);
    }

    public int gap() {
        return now.ballot.strayVotes() + now.outcomes.outOfOrder() + now.termsAstray() + now.oneWayLinks();
    }

    public float turnout() {
        int size = now.ballot.rollSize();
        return size == 0 ? 0.0f : (float) Integer.bitCount(now.ballot.valid) / (float) size;
    }

    public double meanAge() {
        int number = Integer.bitCount(now.upSet);
        return number == 0 ? 0.0 : (double) now.agesOfUp() / (double) number;
    }

    // ---- report

    public int writeVotes() {
        reportLength = now.replicas;
        for (int r = 0; r < reportLength; r++) {
            report[r] = (byte) now.ballot.signOf(r);
        }
        return reportLength;
    }

    public int reportByte(int index) {
        return index < 0 || index >= reportLength ? NONE : report[index];
    }

    // ---- what the calls share

    private void needReplica(int replica) {
        if (replica < 0 || replica >= now.replicas) {
            throw new IndexOutOfBoundsException("there is no such replica");
        }
    }

    private static void needKind(int value, int kind) {
        if (!fits(value, kind)) {
            throw new IllegalArgumentException("an argument is out of its range");
        }
    }

    private static void needBetween(int value, int lowest, int highest) {
        if (value < lowest || value > highest) {
            throw new IllegalArgumentException("an argument is out of its range");
        }
    }

    private static boolean fits(int value, int kind) {
        return value >= LOWEST[kind] && value <= HIGHEST[kind];
    }

    private static boolean has(int set, int replica) {
        return (set >> replica & 1) == 1;
    }

    private static int sealNumber(int candidate, int nonce, int term) {
        return (31 * candidate + 17 * nonce + 7 * term + 5) * 40503 & 65535;
    }

    /** A deed that was not refused is a change: what was noted ahead of it can be undone from now on. */
    private int settled(int answer) {
        if (answer >= 0) {
            history.keepNote();
        }
        return answer;
    }

    /** All that undo() concerns: the replicas, the settings, the ballot and the outcomes. */
    private static final class Office {
        int replicas;
        int upSet;
        final int[] settings = new int[SETTINGS];
        final int[] ages = new int[MOST_REPLICAS];
        final int[] freshness = new int[MOST_REPLICAS];
        final int[] terms = new int[MOST_REPLICAS];
        final int[] leaders = new int[MOST_REPLICAS];
        /** For each replica the set of those with which it is linked, itself too. */
        final int[] links = new int[MOST_REPLICAS];
        final Ballot ballot = new Ballot();
        final Outcomes outcomes = new Outcomes();
        /** Made anew whenever it is asked, so it is no part of what is copied. */
        final Tally tally = new Tally();

        void makeEmpty() {
            replicas = 0;
            upSet = 0;
            System.arraycopy(FIRST_SETTINGS, 0, settings, 0, SETTINGS);
            ballot.clear();
            outcomes.size = 0;
        }

        void copyFrom(Office other) {
            replicas = other.replicas;
            upSet = other.upSet;
            System.arraycopy(other.settings, 0, settings, 0, SETTINGS);
            System.arraycopy(other.ages, 0, ages, 0, MOST_REPLICAS);
            System.arraycopy(other.freshness, 0, freshness, 0, MOST_REPLICAS);
            System.arraycopy(other.terms, 0, terms, 0, MOST_REPLICAS);
            System.arraycopy(other.leaders, 0, leaders, 0, MOST_REPLICAS);
            System.arraycopy(other.links, 0, links, 0, MOST_REPLICAS);
            ballot.copyFrom(other.ballot);
            outcomes.copyFrom(other.outcomes);
        }

        void addReplica(int age, int fresh) {
            if (replicas >= MOST_REPLICAS) {
                return;
            }
            int added = replicas;
            replicas++;
            ages[added] = age;
            freshness[added] = fresh;
            terms[added] = 0;
            leaders[added] = NONE;
            upSet |= 1 << added;
            links[added] = upSet;
            for (int r = 0; r < added; r++) {
                links[r] |= 1 << added;
            }
        }

        // -- deeds: each returns its answer, or the negative of the reason by which it is refused

        int callBallot(int caller) {
            if (ballot.phase == SEALING || ballot.phase == BREAKING) {
                return BALLOT_UNDER_WAY;
            }
            if (!has(upSet, caller)) {
                return REPLICA_DOWN;
            }
            int roll = links[caller] & upSet;
            if (!isMajority(roll)) {
                return ROLL_TOO_SMALL;
            }
            int term = greatestTermOf(roll) + 1;
            for (int r = 0; r < replicas; r++) {
                if (has(roll, r)) {
                    terms[r] = term;
                    leaders[r] = NONE;
                }
            }
            ballot.begin(term, caller, roll);
            return term;
        }

        int sealVote(int voter, int candidate, int nonce) {
            return sealWith(voter, sealNumber(candidate, nonce, ballot.term));
        }

        int sealWith(int voter, int number) {
            if (ballot.phase != SEALING) {
                return NO_SEALING;
            }
            if (!ballot.isOnRoll(voter)) {
                return NOT_ON_ROLL;
            }
            if (has(ballot.sealed, voter)) {
                return SEALED_ALREADY;
            }
            if (!has(reachedSet(), voter)) {
                return NOT_REACHED;
            }
            ballot.putSeal(voter, number);
            return Integer.bitCount(ballot.sealed);
        }

        int closeSealing() {
            if (ballot.phase != SEALING) {
                return NO_SEALING;
            }
            int votes = Integer.bitCount(ballot.sealed);
            if (votes < ballot.need()) {
                return TOO_FEW_SEALED;
            }
            ballot.phase = BREAKING;
            return votes;
        }

        int breakVote(int voter, int candidate, int nonce) {
            if (ballot.phase != BREAKING) {
                return NO_BREAKING;
            }
            if (!ballot.isOnRoll(voter)) {
                return NOT_ON_ROLL;
            }
            if (!has(ballot.sealed, voter)) {
                return NOTHING_TO_BREAK;
            }
            if (!has(reachedSet(), voter)) {
                return NOT_REACHED;
            }
            int flaw = ballot.sealFits(voter, candidate, nonce) ? flawOf(voter, candidate) : SEAL_MISFITS;
            ballot.putBroken(voter, candidate, flaw);
            return flaw;
        }

        int countVotes() {
            if (ballot.phase != BREAKING) {
                return NO_BREAKING;
            }
            int reached = reachedSet();
            if ((ballot.sealed & reached) != 0) {
                return SEALS_UNBROKEN;
            }
            ballot.phase = COUNTED;
            tally.take(ballot, ages, NONE, 0);
            int chosen = tally.chosenBy(settings[LEAST], settings[TIES]);
            for (int r = 0; r < replicas; r++) {
                if (has(ballot.roll & reached, r)) {
                    leaders[r] = chosen;
                }
            }
            keepOutcome(chosen);
            return chosen == NONE ? NOBODY_CHOSEN : chosen;
        }

        private void keepOutcome(int chosen) {
            outcomes.makeRoom();
            outcomes.write(TERM, ballot.term);
            outcomes.write(CHOSEN, chosen);
            outcomes.write(CHOSEN_VOTES, chosen == NONE ? 0 : tally.most);
            outcomes.write(VALID_VOTES, Integer.bitCount(ballot.valid));
            outcomes.write(SPOILED_VOTES, Integer.bitCount(ballot.spoiled));
            outcomes.write(BY_AGE, chosen != NONE && tally.howManyHaveMost > 1 ? 1 : 0);
            outcomes.write(COUNT_LEAST, settings[LEAST]);
            outcomes.write(COUNT_TIES, settings[TIES]);
        }

        int askRecount(int asker) {
            if (ballot.phase != COUNTED) {
                return NOT_COUNTED;
            }
            if (!ballot.isOnRoll(asker)) {
                return NOT_ON_ROLL;
            }
            if (!has(upSet, asker)) {
                return REPLICA_DOWN;
            }
            int chosen = outcomes.tell(0, CHOSEN);
            if (chosen == asker) {
                return WAS_CHOSEN;
            }
            if (ballot.recountsAsked >= settings[RECOUNTS]) {
                return NO_RECOUNT_LEFT;
            }
            ballot.recountsAsked++;
            ballot.phase = BREAKING;
            outcomes.dropLatest();
            forgetLeader(ballot.roll, chosen);
            return ballot.sealMisfitsAgain();
        }

        int giveBallotUp() {
            if (ballot.phase == NO_BALLOT) {
                return NO_BALLOT_THERE;
            }
            int term = ballot.term;
            ballot.clear();
            return term;
        }

        int changeUp(int replica, boolean isUp) {
            if (has(upSet, replica) == isUp) {
                return SO_ALREADY;
            }
            upSet ^= 1 << replica;
            if (!isUp) {
                leaders[replica] = NONE;
                forgetLeader(links[replica], replica);
            }
            return Integer.bitCount(upSet);
        }

        int changeLink(int replica, int other, boolean isLinked) {
            if (replica == other || has(links[replica], other) == isLinked) {
                return SO_ALREADY;
            }
            links[replica] ^= 1 << other;
            links[other] ^= 1 << replica;
            return Integer.bitCount(othersLinked(replica));
        }

        int changeFresh(int replica, int fresh) {
            int before = freshness[replica];
            freshness[replica] = fresh;
            return before;
        }

        int changeSetting(int what, int value) {
            int before = settings[what];
            settings[what] = value;
            return before;
        }

        private void forgetLeader(int set, int leader) {
            for (int r = 0; r < replicas; r++) {
                if (has(set, r) && leaders[r] == leader) {
                    leaders[r] = NONE;
                }
            }
        }

        // -- what there is

        int tell(int what) {
            switch (what) {
                case 0:
                    return replicas;
                case 1:
                    return Integer.bitCount(upSet);
                case 2:
                    return settings[LEAST];
                case 3:
                    return settings[TIES];
                case 4:
                    return settings[RECOUNTS];
                case 5:
                    return ballot.phase;
                case 14:
                    return outcomes.size;
                case 15:
                    return greatestTermOf((1 << replicas) - 1);
                default:
                    return linksCut();
            }
        }

        int tellOf(int replica, int what) {
            switch (what) {
                case 0:
                    return ages[replica];
                case 1:
                    return freshness[replica];
                case 2:
                    return has(upSet, replica) ? 1 : 0;
                case 3:
                    return terms[replica];
                case 4:
                    return leaders[replica];
                case 5:
                    return othersLinked(replica);
                case 6:
                    return ballot.isOnRoll(replica) ? ballot.stateOf(replica) : NONE;
                case 7:
                    return ballot.found[replica];
                case 8:
                    return ballot.validVotesFor(replica);
                default:
                    return has(reachedSet(), replica) ? 1 : 0;
            }
        }

        private int reachedSet() {
            boolean callerIsUp = ballot.phase != NO_BALLOT && has(upSet, ballot.caller);
            return callerIsUp ? upSet & links[ballot.caller] : 0;
        }

        private boolean isMajority(int set) {
            return 2 * Integer.bitCount(set) > replicas;
        }

        private int othersLinked(int replica) {
            return links[replica] & ~(1 << replica);
        }

        private int greatestTermOf(int set) {
            int greatest = 0;
            for (int r = 0; r < replicas; r++) {
                if (has(set, r)) {
                    greatest = Math.max(greatest, terms[r]);
                }
            }
            return greatest;
        }

        private int linksCut() {
            int cut = 0;
            for (int r = 0; r < replicas; r++) {
                for (int other = 0; other < r; other++) {
                    cut += has(links[r], other) ? 0 : 1;
                }
            }
            return cut;
        }

        int agesOfUp() {
            int sum = 0;
            for (int r = 0; r < replicas; r++) {
                sum += has(upSet, r) ? ages[r] : 0;
            }
            return sum;
        }

        // -- reasons and what would be

        int chosenNow(int least, int ties) {
            if (ballot.phase != BREAKING && ballot.phase != COUNTED) {
                return NONE;
            }
            tally.take(ballot, ages, NONE, 0);
            return tally.chosenBy(least, ties);
        }

        /** A vote for another one, or a vote less, never helps a replica: so all that can be valid for it are. */
        boolean couldBeChosen(int replica) {
            if (ballot.phase != BREAKING) {
                return false;
            }
            int toBreak = ballot.sealed & reachedSet();
            int votesLeft = 0;
            for (int voter = 0; voter < replicas; voter++) {
                votesLeft += has(toBreak, voter) && flawOf(voter, replica) == 0 ? 1 : 0;
            }
            tally.take(ballot, ages, replica, votesLeft);
            return tally.chosenBy(settings[LEAST], settings[TIES]) == replica;
        }

        /** The reason, besides the seal, by which a vote for a candidate would be spoiled; 0 if there is none. */
        int flawOf(int voter, int candidate) {
            if (!ballot.isOnRoll(candidate)) {
                return CANDIDATE_NOT_ON_ROLL;
            }
            if (freshness[candidate] < freshness[voter]) {
                return CANDIDATE_LESS_FRESH;
            }
            return has(upSet, candidate) ? 0 : CANDIDATE_DOWN;
        }

        /** The replicas that could call a ballot if just those of a set were up. */
        int callersIf(int up) {
            int callers = 0;
            for (int r = 0; r < replicas; r++) {
                if (has(up, r) && isMajority(links[r] & up)) {
                    callers |= 1 << r;
                }
            }
            return callers;
        }

        int vitalSet() {
            if (callersIf(upSet) == 0) {
                return 0;
            }
            int vital = 0;
            for (int r = 0; r < replicas; r++) {
                if (has(upSet, r) && callersIf(upSet & ~(1 << r)) == 0) {
                    vital |= 1 << r;
                }
            }
            return vital;
        }

        int whyNotChosen(int replica) {
            if (outcomes.size == 0) {
                return NO_OUTCOME;
            }
            if (outcomes.tell(0, CHOSEN) == replica) {
                return IT_WAS_CHOSEN;
            }
            if (ballot.phase == NO_BALLOT || ballot.term != outcomes.tell(0, TERM)) {
                return BALLOT_GONE;
            }
            if (!ballot.isOnRoll(replica)) {
                return WAS_NOT_ON_ROLL;
            }
            tally.take(ballot, ages, NONE, 0);
            if (tally.votes[replica] < tally.most) {
                return ANOTHER_HAD_MORE;
            }
            int ahead = tally.aheadBy(outcomes.tell(0, COUNT_TIES));
            if (ahead == NONE) {
                return SEVERAL_HAD_AS_MANY;
            }
            return ahead == replica ? FEWER_THAN_LEAST : ANOTHER_WENT_AHEAD;
        }

        int causeFor(int replica) {
            int reason = whyNotChosen(replica);
            // for each reason that has a cause the tally has been taken by now
            switch (reason) {
                case ANOTHER_HAD_MORE:
                    int ahead = tally.aheadBy(outcomes.tell(0, COUNT_TIES));
                    return ahead == NONE ? tally.firstWithMost : ahead;
                case ANOTHER_WENT_AHEAD:
                    return tally.eldestWithMost;
                case SEVERAL_HAD_AS_MANY:
                    return tally.howManyHaveMost;
                case FEWER_THAN_LEAST:
                    return outcomes.tell(0, COUNT_LEAST) - tally.votes[replica];
                default:
                    return NONE;
            }
        }

        // -- what does not agree

        int termsAstray() {
            int astray = 0;
            for (int r = 0; r < replicas; r++) {
                astray += ballot.isOnRoll(r) && terms[r] != ballot.term ? 1 : 0;
            }
            return astray;
        }

        int oneWayLinks() {
            int oneWay = 0;
            for (int r = 0; r < replicas; r++) {
                for (int other = 0; other < r; other++) {
                    oneWay += has(links[r], other) == has(links[other], r) ? 0 : 1;
                }
            }
            return oneWay;
        }
    }

    /** The one ballot that there may be, with the votes of its ROLL. */
    private static final class Ballot {
        int phase;
        int term;
        int caller;
        int roll;
        int recountsAsked;
        /** The sets of voters whose votes are sealed, valid and spoiled. */
        int sealed;
        int valid;
        int spoiled;
        /** The numbers with which the votes were sealed; a broken vote keeps its number for a recount. */
        final int[] numbers = new int[MOST_REPLICAS];
        /** The candidate of a valid vote, the reason of a spoiled one, otherwise NONE. */
        final int[] found = new int[MOST_REPLICAS];

        void clear() {
            begin(NONE, NONE, 0);
            phase = NO_BALLOT;
        }

        void begin(int newTerm, int newCaller, int newRoll) {
            phase = SEALING;
            term = newTerm;
            caller = newCaller;
            roll = newRoll;
            recountsAsked = 0;
            sealed = 0;
            valid = 0;
            spoiled = 0;
            for (int r = 0; r < MOST_REPLICAS; r++) {
                numbers[r] = 0;
                found[r] = NONE;
            }
        }

        void copyFrom(Ballot other) {
            phase = other.phase;
            term = other.term;
            caller = other.caller;
            roll = other.roll;
            recountsAsked = other.recountsAsked;
            sealed = other.sealed;
            valid = other.valid;
            spoiled = other.spoiled;
            System.arraycopy(other.numbers, 0, numbers, 0, MOST_REPLICAS);
            System.arraycopy(other.found, 0, found, 0, MOST_REPLICAS);
        }

        int rollSize() {
            return Integer.bitCount(roll);
        }

        int need() {
            return rollSize() / 2 + 1;
        }

        boolean isOnRoll(int replica) {
            return has(roll, replica);
        }

        int stateOf(int voter) {
            if (has(sealed, voter)) {
                return SEALED;
            }
            if (has(valid, voter)) {
                return VALID;
            }
            return has(spoiled, voter) ? SPOILED : NOT_SEALED;
        }

        int validVotesFor(int candidate) {
            int votes = 0;
            for (int r = 0; r < MOST_REPLICAS; r++) {
                votes += has(valid, r) && found[r] == candidate ? 1 : 0;
            }
            return votes;
        }

        void putSeal(int voter, int number) {
            sealed |= 1 << voter;
            numbers[voter] = number;
        }

        boolean sealFits(int voter, int candidate, int nonce) {
            return sealNumber(candidate, nonce, term) == numbers[voter];
        }

        void putBroken(int voter, int candidate, int flaw) {
            sealed &= ~(1 << voter);
            if (flaw == 0) {
                valid |= 1 << voter;
                found[voter] = candidate;
            } else {
                spoiled |= 1 << voter;
                found[voter] = flaw;
            }
        }

        int sealMisfitsAgain() {
            int votes = 0;
            for (int r = 0; r < MOST_REPLICAS; r++) {
                if (has(spoiled, r) && found[r] == SEAL_MISFITS) {
                    spoiled &= ~(1 << r);
                    sealed |= 1 << r;
                    found[r] = NONE;
                    votes++;
                }
            }
            return votes;
        }

        int fittingNonce(int voter, int candidate) {
            if (!has(sealed, voter)) {
                return NONE;
            }
            for (int nonce = LOWEST[NONCE]; nonce <= HIGHEST[NONCE]; nonce++) {
                if (sealFits(voter, candidate, nonce)) {
                    return nonce;
                }
            }
            return NONE;
        }

        int tell(int what) {
            if (phase == NO_BALLOT) {
                return what <= 9 ? NONE : 0;
            }
            switch (what) {
                case 6:
                    return term;
                case 7:
                    return caller;
                case 8:
                    return roll;
                case 9:
                    return need();
                case 10:
                    return Integer.bitCount(sealed);
                case 11:
                    return Integer.bitCount(valid);
                case 12:
                    return Integer.bitCount(spoiled);
                default:
                    return recountsAsked;
            }
        }

        char signOf(int replica) {
            if (!isOnRoll(replica)) {
                return '-';
            }
            switch (stateOf(replica)) {
                case NOT_SEALED:
                    return '.';
                case SEALED:
                    return '#';
                case VALID:
                    return (char) ('0' + found[replica]);
                default:
                    return 'x';
            }
        }

        /** Votes too many or too few for the ROLL, and valid votes for a replica that is not on it. */
        int strayVotes() {
            int notSealed = roll & ~(sealed | valid | spoiled);
            int votes = Integer.bitCount(notSealed) + Integer.bitCount(sealed) + Integer.bitCount(valid)
                    + Integer.bitCount(spoiled);
            int stray = Math.abs(rollSize() - votes);
            for (int r = 0; r < MOST_REPLICAS; r++) {
                stray += has(valid, r) && !isOnRoll(found[r]) ? 1 : 0;
            }
            return stray;
        }
    }

    /** The valid votes of a ballot for each replica, and those of its ROLL that have the most. */
    private static final class Tally {
        final int[] votes = new int[MOST_REPLICAS];
        int most;
        int howManyHaveMost;
        int firstWithMost;
        int eldestWithMost;

        /** Adds the votes up, as if one who is favoured (or NONE) had some more. */
        void take(Ballot ballot, int[] ages, int favoured, int more) {
            most = 0;
            howManyHaveMost = 0;
            firstWithMost = NONE;
            eldestWithMost = NONE;
            for (int r = 0; r < MOST_REPLICAS && r < ages.length; r++) {
                votes[r] = ballot.validVotesFor(r) + (r == favoured ? more : 0);
                if (has(ballot.roll, r)) {
                    rank(r, ages);
                }
            }
        }

        private void rank(int replica, int[] ages) {
            if (eldestWithMost == NONE || votes[replica] > most) {
                most = votes[replica];
                howManyHaveMost = 1;
                firstWithMost = replica;
                eldestWithMost = replica;
            } else if (votes[replica] == most) {
                howManyHaveMost++;
                if (ages[replica] > ages[eldestWithMost]) {
                    eldestWithMost = replica;
                }
            }
        }

        int aheadBy(int ties) {
            return ties == 0 && howManyHaveMost > 1 ? NONE : eldestWithMost;
        }

        int chosenBy(int least, int ties) {
            return most < least ? NONE : aheadBy(ties);
        }
    }

    /** The outcomes that are kept, the latest one last. */
    private static final class Outcomes {
        int size;
        private final int[] numbers = new int[MOST_OUTCOMES * OUTCOME_NUMBERS];

        void copyFrom(Outcomes other) {
            size = other.size;
            System.arraycopy(other.numbers, 0, numbers, 0, numbers.length);
        }

        /** Makes room for one more, which is the latest then; the oldest gives way if there are too many. */
        void makeRoom() {
            if (size < MOST_OUTCOMES) {
                size++;
            } else {
                System.arraycopy(numbers, OUTCOME_NUMBERS, numbers, 0, numbers.length - OUTCOME_NUMBERS);
            }
        }

        void write(int what, int value) {
            if (size > 0) {
                numbers[(size - 1) * OUTCOME_NUMBERS + what] = value;
            }
        }

        void dropLatest() {
            if (size > 0) {
                size--;
            }
        }

        int tell(int back, int what) {
            return back < 0 || back >= size ? NONE : numbers[(size - 1 - back) * OUTCOME_NUMBERS + what];
        }

        int outOfOrder() {
            int wrong = 0;
            for (int back = 1; back < size; back++) {
                wrong += tell(back, TERM) >= tell(back - 1, TERM) ? 1 : 0;
            }
            return wrong;
        }
    }

    /** The offices as they were before the latest changes, in a ring with one spare place. */
    private static final class History {
        private static final int PLACES = MOST_CHANGES + 1;

        int size;
        private int next;
        private final Office[] offices = new Office[PLACES];

        History() {
            for (int i = 0; i < PLACES; i++) {
                offices[i] = new Office();
            }
        }

        /** Writes an office down in the spare place; it counts only if keepNote() follows. */
        void note(Office office) {
            offices[next].copyFrom(office);
        }

        void keepNote() {
            next = (next + 1) % PLACES;
            size = Math.min(size + 1, MOST_CHANGES);
        }

        /** Makes an office as it was before the latest change; tells whether there was one. */
        boolean takeBack(Office office) {
            if (size == 0) {
                return false;
            }
            size--;
            next = (next + PLACES - 1) % PLACES;
            office.copyFrom(offices[next]);
            return true;
        }

        void forget() {
            size = 0;
        }
    }

    /** The deeds of a text: the word of each and the kinds of the numbers behind it. */
    private enum Deed {
        SET_LEAST("least", LEAST, NONE, NONE),
        SET_TIES("ties", TIES, NONE, NONE),
        SET_RECOUNTS("recounts", RECOUNTS, NONE, NONE),
        CALL("call", REPLICA, NONE, NONE),
        VOTE("vote", REPLICA, REPLICA, NONCE),
        PUT_SEAL("seal", REPLICA, SEAL, NONE),
        CLOSE("close", NONE, NONE, NONE),
        BREAK("break", REPLICA, REPLICA, NONCE),
        COUNT("count", NONE, NONE, NONE),
        RECOUNT("recount", REPLICA, NONE, NONE),
        GIVE("give", NONE, NONE, NONE),
        DOWN("down", REPLICA, NONE, NONE),
        UP("up", REPLICA, NONE, NONE),
        CUT("cut", REPLICA, REPLICA, NONE),
        JOIN("join", REPLICA, REPLICA, NONE);

        final String word;
        private final int firstKind;
        private final int secondKind;
        private final int thirdKind;

        Deed(String word, int firstKind, int secondKind, int thirdKind) {
            this.word = word;
            this.firstKind = firstKind;
            this.secondKind = secondKind;
            this.thirdKind = thirdKind;
        }

        /** The kind of the number at a place from 0; NONE if there is none. */
        int kindAt(int place) {
            switch (place) {
                case 0:
                    return firstKind;
                case 1:
                    return secondKind;
                case 2:
                    return thirdKind;
                default:
                    return NONE;
            }
        }
    }

    /** Opens offices by the text buffer. The functions that read return 0, or the code of an error at the token. */
    private static final class Opener {
        private static final int MOST_NUMBERS = 3;

        final TextBuffer text = new TextBuffer();
        private final int[] numbers = new int[MOST_NUMBERS];

        /** Makes an office by the text; returns what load() returns. */
        int open(Office office) {
            office.makeEmpty();
            text.begin();
            int code = readReplicas(office);
            for (int turn = 0; turn < MOST_BYTES && code == 0 && !text.isEnd(); turn++) {
                Deed deed = deedThere();
                if (deed == null) {
                    code = CANNOT_STAND;
                } else {
                    code = readDeed(deed, office.replicas);
                    if (code == 0 && perform(deed, office) < 0) {
                        code = DEED_REFUSED;
                    }
                }
                if (code == 0) {
                    text.advance();
                }
            }
            return code == 0 ? office.replicas : -30 - (8 * text.start + code);
        }

        private int readReplicas(Office office) {
            if (!text.isWord("office")) {
                return CANNOT_STAND;
            }
            text.advance();
            for (int turn = 0; turn <= MOST_REPLICAS && text.isWord("replica"); turn++) {
                int code = readReplica(office.replicas);
                if (code != 0) {
                    return code;
                }
                office.addReplica(numbers[0], numbers[1]);
                text.advance();
            }
            if (office.replicas >= FEWEST_REPLICAS) {
                return 0;
            }
            return text.isEnd() || deedThere() != null ? REPLICA_COUNT : CANNOT_STAND;
        }

        /** Reads a replica up to its semicolon, if there are some already. */
        private int readReplica(int replicas) {
            if (replicas >= MOST_REPLICAS) {
                return REPLICA_COUNT;
            }
            text.advance();
            int code = readNumber(0, AGE, replicas);
            if (code == 0) {
                code = readNumber(1, FRESH, replicas);
            }
            return code == 0 && !text.isSemicolon() ? CANNOT_STAND : code;
        }

        /** Reads a deed up to its semicolon. */
        private int readDeed(Deed deed, int replicas) {
            text.advance();
            int code = 0;
            for (int place = 0; place < MOST_NUMBERS && code == 0 && deed.kindAt(place) != NONE; place++) {
                code = readNumber(place, deed.kindAt(place), replicas);
            }
            return code == 0 && !text.isSemicolon() ? CANNOT_STAND : code;
        }

        private int readNumber(int place, int kind, int replicas) {
            if (!text.isNumber()) {
                return CANNOT_STAND;
            }
            if (!fits(text.number, kind) || kind == REPLICA && text.number >= replicas) {
                return OUT_OF_RANGE;
            }
            numbers[place] = text.number;
            text.advance();
            return 0;
        }

        private Deed deedThere() {
            for (int i = 0; i < DEEDS.length; i++) {
                if (text.isWord(DEEDS[i].word)) {
                    return DEEDS[i];
                }
            }
            return null;
        }

        private int perform(Deed deed, Office office) {
            switch (deed) {
                case SET_LEAST:
                    return office.changeSetting(LEAST, numbers[0]);
                case SET_TIES:
                    return office.changeSetting(TIES, numbers[0]);
                case SET_RECOUNTS:
                    return office.changeSetting(RECOUNTS, numbers[0]);
                case CALL:
                    return office.callBallot(numbers[0]);
                case VOTE:
                    return office.sealVote(numbers[0], numbers[1], numbers[2]);
                case PUT_SEAL:
                    return office.sealWith(numbers[0], numbers[1]);
                case CLOSE:
                    return office.closeSealing();
                case BREAK:
                    return office.breakVote(numbers[0], numbers[1], numbers[2]);
                case COUNT:
                    return office.countVotes();
                case RECOUNT:
                    return office.askRecount(numbers[0]);
                case GIVE:
                    return office.giveBallotUp();
                case DOWN:
                    return office.changeUp(numbers[0], false);
                case UP:
                    return office.changeUp(numbers[0], true);
                case CUT:
                    return office.changeLink(numbers[0], numbers[1], false);
                default:
                    return office.changeLink(numbers[0], numbers[1], true);
            }
        }
    }

    /** The text buffer, which shows its tokens one at a time. */
    private static final class TextBuffer {
        private static final int END = 0;
        private static final int WORD = 1;
        private static final int NUMBER = 2;
        private static final int SEMICOLON = 3;
        private static final int NO_TOKEN = 4;
        private static final int MOST_DIGITS = 5;

        int length;
        private final byte[] bytes = new byte[MOST_BYTES];
        private int kind;
        /** The position of the token's first byte, and of the first byte behind it. */
        int start;
        private int end;
        /** The value of a token that is a number. */
        int number;

        /** Appends four bytes, the most significant one first. */
        void putFour(int four) {
            for (int shift = 24; shift >= 0 && length < MOST_BYTES; shift -= 8) {
                bytes[length] = (byte) (four >> shift);
                length++;
            }
        }

        /** Shows the first token. */
        void begin() {
            end = 0;
            advance();
        }

        void advance() {
            start = end;
            while (start < length && (bytes[start] == ' ' || bytes[start] == '\n')) {
                start++;
            }
            end = start;
            takeWord();
            if (end > start) {
                kind = WORD;
                return;
            }
            takeNumber();
            if (end > start) {
                kind = end - start > MOST_DIGITS ? NO_TOKEN : NUMBER;
            } else if (start >= length) {
                kind = END;
            } else {
                end = start + 1;
                kind = bytes[start] == ';' ? SEMICOLON : NO_TOKEN;
            }
        }

        private void takeWord() {
            while (end < length && bytes[end] >= 'a' && bytes[end] <= 'z') {
                end++;
            }
        }

        private void takeNumber() {
            number = 0;
            while (end < length && bytes[end] >= '0' && bytes[end] <= '9') {
                number = 10 * number + bytes[end] - '0';
                end++;
            }
        }

        boolean isEnd() {
            return kind == END;
        }

        boolean isNumber() {
            return kind == NUMBER;
        }

        boolean isSemicolon() {
            return kind == SEMICOLON;
        }

        boolean isWord(String word) {
            if (kind != WORD || end - start != word.length()) {
                return false;
            }
            for (int i = 0; i < word.length() && start + i < length; i++) {
                if (bytes[start + i] != word.charAt(i)) {
                    return false;
                }
            }
            return true;
        }
    }
}
