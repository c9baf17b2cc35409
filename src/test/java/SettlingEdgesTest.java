/** The terms of voting, accepting, confirming and deciding: each sentence that names a boundary case. */
final class SettlingEdgesTest {
    private static final int NONE = SliceVoting.NONE;
    private static final int PREPARES = 0xFFF;
    private static final Answers answers = new Answers();

    public static void main(String[] args) {
        contradictCommitAndGreaterPrepare();
        contradictCommitAndPrepareOfTheSameBallot();
        contradictCommitAndLesserPrepare();
        contradictSameValues();
        contradictTwoCommits();
        contradictTwoPrepares();

        emptyAtFirst();
        setsOnlyGrow();
        votesThatContradictAVote();
        votesThatContradictAnAcceptedStatement();
        votesThatContradictNothing();

        acceptsOnlyWhatContradictsNoneAccepted();
        acceptsDespiteItsVotes();
        acceptsInAQuorumWithItself();
        acceptsByVotesOrAccepts();
        acceptsByBlockingNodesOtherThanItself();
        acceptsNothingWithoutATopQuota();
        acceptsWhenTheEmptySetBlocks();

        confirmsOnlyWhatItAccepted();
        confirmsInAQuorumWithItself();

        votesForCommitOnlyWithACounter();
        votesForCommitOnlyOfItsOwnBallot();
        votesForCommitOnlyWhenPrepareIsConfirmed();
        votesForCommitOnlyIfTheRuleLetsIt();
        votesForCommitThenGoesFromTheTopAgain();

        decidesForTheFirstTime();
        leastStatementFirst();
        acceptingGoesBeforeVoting();
        onlyTheOneThatHearsSettles();

        illBehavedKeepsWhatItHad();
        illBehavedDoesNotSettle();
        answers.end();
    }

    private static int prepare(int counter, int value) {
        return Networks.prepare(counter, value);
    }

    private static int commit(int counter, int value) {
        return Networks.commit(counter, value);
    }

    // ---- what contradicts what

    /** Node 1 accepts the first statement; then it hears that the second is accepted. */
    private static boolean bothAreAccepted(int first, int second) {
        SliceVoting s = Networks.puppet();
        s.say(0, 1, 0, 1 << first);
        s.say(0, 1, 0, 1 << second);
        return s.accepted(1) == (1 << first | 1 << second);
    }

    private static void contradicts(int s, int t, boolean due) {
        answers.due(s + " contradicts " + t, bothAreAccepted(s, t), !due);
        answers.due(t + " contradicts " + s, bothAreAccepted(t, s), !due);
    }

    private static void contradictCommitAndGreaterPrepare() {
        answers.about("Terms: one is COMMIT of a ballot a, the other PREPARE of a ballot b greater than a, and the values of a and b are different");
        for (int a = 0; a < 12; a++) {
            for (int b = a + 1; b < 12; b++) {
                if (a % 3 != b % 3) {
                    contradicts(12 + a, b, true);
                }
            }
        }
    }

    private static void contradictCommitAndPrepareOfTheSameBallot() {
        answers.about("Terms: .. PREPARE of a ballot b greater than a (b is a)");
        for (int a = 0; a < 12; a++) {
            contradicts(12 + a, a, false);
        }
    }

    private static void contradictCommitAndLesserPrepare() {
        answers.about("Terms: .. PREPARE of a ballot b greater than a (b is less)");
        for (int a = 0; a < 12; a++) {
            for (int b = 0; b < a; b++) {
                contradicts(12 + a, b, false);
            }
        }
    }

    private static void contradictSameValues() {
        answers.about("Terms: .. and the values of a and b are different (they are the same)");
        for (int a = 0; a < 12; a++) {
            for (int b = a + 3; b < 12; b += 3) {
                contradicts(12 + a, b, false);
                contradicts(12 + a, 12 + b, false);
            }
        }
    }

    private static void contradictTwoCommits() {
        answers.about("Terms: and when both are COMMIT, of ballots with different values");
        for (int a = 0; a < 12; a++) {
            for (int b = a + 1; b < 12; b++) {
                if (a % 3 != b % 3) {
                    contradicts(12 + a, 12 + b, true);
                }
            }
        }
    }

    private static void contradictTwoPrepares() {
        answers.about("Terms: Two statements CONTRADICT one another when one is COMMIT (none is)");
        for (int a = 0; a < 12; a++) {
            for (int b = a + 1; b < 12; b++) {
                contradicts(a, b, false);
            }
        }
    }

    // ---- sets and votes

    private static void emptyAtFirst() {
        answers.about("Terms: sets of statements, empty at first .. and a counter, 0 at first, and a value, 0 at first");
        for (int n = 1; n <= 6; n++) {
            SliceVoting s = new SliceVoting(n);
            for (int v = 0; v < n; v++) {
                answers.due("voted", s.voted(v), 0);
                answers.due("accepted", s.accepted(v), 0);
                answers.due("confirmed", s.confirmed(v), 0);
                answers.due("counter", s.counter(v), 0);
                answers.due("value", s.value(v), 0);
                answers.due("decided", s.decided(v), NONE);
                answers.due("known", s.known(v, n - 1 - v, false) | s.known(v, n - 1 - v, true), 0);
            }
        }
    }

    private static void setsOnlyGrow() {
        answers.about("Terms: that only grow");
        SliceVoting s = Networks.puppet();
        s.propose(1, 1, 0);
        s.say(0, 1, prepare(1, 0), prepare(1, 0));
        int both = prepare(1, 0) | commit(1, 0);
        answers.due("voted", s.voted(1), both);
        answers.due("accepted", s.accepted(1), prepare(1, 0));
        answers.due("confirmed", s.confirmed(1), prepare(1, 0));
        s.say(0, 1, 0, 0);
        answers.due("voted, when the other takes all back", s.voted(1), both);
        answers.due("accepted, when the other takes all back", s.accepted(1), prepare(1, 0));
        answers.due("confirmed, when the other takes all back", s.confirmed(1), prepare(1, 0));
        s.propose(1, 2, 0);
        answers.due("voted, with a greater counter", s.voted(1), both | prepare(2, 0));
        s.say(0, 1, 0, prepare(3, 2));
        answers.due("accepted, one more", s.accepted(1), prepare(1, 0) | prepare(3, 2));
    }

    private static void votesThatContradictAVote() {
        answers.about("Terms: A node votes for a statement only if that contradicts no statement for which it has voted");
        SliceVoting s = Networks.puppet();
        s.say(0, 1, 0, prepare(2, 1));
        s.propose(1, 2, 0);
        int votes = prepare(1, 1) | prepare(2, 1) | commit(2, 1);
        answers.due("COMMIT (2, 1)", s.voted(1), votes);
        s.say(0, 1, 0, prepare(3, 0));
        answers.due("value 0", s.propose(1, 4, 2), 0);
        answers.due("PREPARE (2, 0) is less than (2, 1), (3, 0) and (4, 0) are left", s.voted(1),
            votes | prepare(1, 0) | prepare(2, 0));
        answers.due("the counter is 4 all the same", s.counter(1), 4);

        SliceVoting equal = Networks.puppet();
        equal.say(0, 1, 0, prepare(2, 1));
        equal.propose(1, 2, 0);
        equal.say(0, 1, 0, prepare(3, 2));
        answers.due("value 2", equal.propose(1, 4, 1), 2);
        answers.due("PREPARE (2, 2) is greater than (2, 1)", equal.voted(1), votes | prepare(1, 2));
    }

    private static void votesThatContradictAnAcceptedStatement() {
        answers.about("Terms: .. or that it has accepted");
        SliceVoting s = Networks.puppet();
        s.propose(1, 2, 1);
        s.say(0, 1, 0, prepare(2, 1) | prepare(3, 0));
        answers.due("both are confirmed", s.confirmed(1), prepare(2, 1) | prepare(3, 0));
        answers.due("PREPARE (3, 0) hinders COMMIT (2, 1)", s.voted(1), prepare(1, 1) | prepare(2, 1));

        SliceVoting t = Networks.puppet();
        t.propose(1, 2, 1);
        t.say(0, 1, 0, prepare(2, 1) | commit(3, 0));
        answers.due("both are confirmed", t.confirmed(1), prepare(2, 1) | commit(3, 0));
        answers.due("COMMIT (3, 0) hinders COMMIT (2, 1)", t.voted(1), prepare(1, 1) | prepare(2, 1));

        SliceVoting known = Networks.puppet();
        known.propose(1, 2, 1);
        known.say(0, 1, prepare(3, 0) | commit(3, 0), prepare(2, 1));
        answers.due("what others voted for hinders nothing", known.voted(1),
            prepare(1, 1) | prepare(2, 1) | commit(2, 1));
    }

    private static void votesThatContradictNothing() {
        answers.about("Terms: otherwise it leaves it (nothing contradicts)");
        SliceVoting s = Networks.puppet();
        s.propose(1, 2, 1);
        s.say(0, 1, 0, prepare(2, 1) | prepare(2, 0) | prepare(4, 1) | commit(3, 1));
        answers.due("lesser PREPARE and the same value hinder nothing", s.voted(1),
            prepare(1, 1) | prepare(2, 1) | commit(2, 1));
    }

    // ---- accepting

    private static void acceptsOnlyWhatContradictsNoneAccepted() {
        answers.about("Terms: It ACCEPTS a statement .. that contradicts none that it has accepted");
        SliceVoting s = Networks.puppet();
        s.say(0, 1, 0, commit(2, 1));
        s.say(0, 1, 0, -1);
        // PREPARE up to (2, 1), those of value 1, and every COMMIT of value 1.
        int due = PREPARES & ~(prepare(2, 2) | prepare(3, 0) | prepare(3, 2) | prepare(4, 0) | prepare(4, 2));
        due |= commit(1, 1) | commit(2, 1) | commit(3, 1) | commit(4, 1);
        // COMMIT (1, 1) contradicts PREPARE (1, 2) and (2, 0), which are accepted before it.
        due &= ~commit(1, 1);
        answers.due("accepted", s.accepted(1), due);
        answers.due("confirmed", s.confirmed(1), due);
    }

    private static void acceptsDespiteItsVotes() {
        answers.about("Terms: It ACCEPTS a statement that .. contradicts none that it has accepted (it has voted against it)");
        SliceVoting s = Networks.puppet();
        s.propose(1, 4, 0);
        s.say(0, 1, 0, commit(1, 1));
        answers.due("accepted", s.accepted(1), commit(1, 1));
        answers.due("decided", s.decided(1), 1);
        answers.due("its votes stay", s.voted(1), prepare(1, 0) | prepare(2, 0) | prepare(3, 0) | prepare(4, 0));
    }

    private static void acceptsInAQuorumWithItself() {
        answers.about("Terms: if there is a quorum with itself in it");
        SliceVoting s = Networks.allTrustAll(4, 2);
        s.propose(1, 1, 0);
        s.propose(2, 1, 0);
        s.deliver(1, 0);
        s.deliver(2, 0);
        answers.due("{1, 2} is a quorum, but not with node 0 in it", s.accepted(0), 0);
        s.propose(0, 1, 0);
        answers.due("{0, 1} is one", s.accepted(0), prepare(1, 0));

        // Node 1 needs node 2, of which node 0 has heard nothing.
        SliceVoting t = new SliceVoting(3);
        Networks.top(t, 0, 2, 3);
        Networks.top(t, 1, 2, 6);
        Networks.top(t, 2, 1, 4);
        t.propose(0, 1, 0);
        t.propose(1, 1, 0);
        t.deliver(1, 0);
        answers.due("its quota is met, but by no quorum", t.accepted(0), 0);

        // A node beside the quorum, that has voted, too, does not hinder.
        SliceVoting u = new SliceVoting(3);
        Networks.top(u, 0, 2, 3);
        Networks.top(u, 1, 1, 2);
        u.corrupt(2);
        u.corrupt(1);
        u.propose(0, 1, 0);
        u.say(2, 0, prepare(1, 0), 0);
        answers.due("not yet", u.accepted(0), 0);
        u.say(1, 0, prepare(1, 0), 0);
        answers.due("node 2 without a top quota stays out of it", u.accepted(0), prepare(1, 0));
    }

    private static void acceptsByVotesOrAccepts() {
        answers.about("Terms: of whose nodes it knows that each has voted for the statement or accepted it");
        SliceVoting s = Networks.allTrustAll(5, 4);
        s.corrupt(1);
        s.corrupt(2);
        s.corrupt(3);
        s.propose(0, 1, 0);
        s.say(1, 0, prepare(1, 0), 0);
        s.say(2, 0, 0, prepare(1, 0));
        answers.due("its own vote, one that voted, one that accepted", s.accepted(0), 0);
        s.say(3, 0, prepare(2, 0), prepare(2, 0));
        answers.due("one that voted for another statement and accepted it", s.accepted(0), 0);
        s.say(3, 0, prepare(1, 0), 0);
        answers.due("a fourth that voted", s.accepted(0), prepare(1, 0));
    }

    private static void acceptsByBlockingNodesOtherThanItself() {
        answers.about("Terms: if the set of those nodes other than itself of which it knows that they accepted it blocks it");
        SliceVoting s = Networks.allTrustAll(4, 3);
        s.corrupt(1);
        s.corrupt(2);
        s.say(1, 0, 0, prepare(1, 0));
        answers.due("one does not block it", s.accepted(0), 0);
        s.say(2, 0, prepare(1, 0), 0);
        answers.due("a vote counts nothing for that", s.accepted(0), 0);
        s.say(2, 0, 0, prepare(1, 0));
        answers.due("two do", s.accepted(0), prepare(1, 0));
        // Node 0 needs itself and one of two others: {0} blocks it, {1} does not.
        SliceVoting t = new SliceVoting(3);
        int top = Networks.top(t, 0, 2, 1);
        Networks.inner(t, 0, top, 1, 6);
        t.corrupt(1);
        answers.due("it blocks itself", t.blocks(1, 0), true);
        t.propose(0, 1, 0);
        answers.due("its own vote does not block", t.accepted(0), 0);
        t.say(1, 0, 0, prepare(1, 0));
        answers.due("its own vote and one other do not", t.accepted(0), 0);
    }

    private static void acceptsNothingWithoutATopQuota() {
        answers.about("Terms: v has a top quota (it has none, so it accepts nothing)");
        SliceVoting s = new SliceVoting(3);
        Networks.top(s, 1, 1, 2);
        s.corrupt(1);
        s.corrupt(2);
        s.propose(0, 4, 2);
        s.say(1, 0, -1, -1);
        s.say(2, 0, -1, -1);
        answers.due("accepted", s.accepted(0), 0);
        answers.due("confirmed", s.confirmed(0), 0);
        answers.due("decided", s.decided(0), NONE);
    }

    private static void acceptsWhenTheEmptySetBlocks() {
        answers.about("Terms: the set of all other nodes does not meet it (not even all nodes do)");
        SliceVoting s = Networks.allTrustAll(2, 3);
        answers.due("the empty set blocks it", s.blocks(0, 0), true);
        s.deliver(1, 0);
        answers.due("every PREPARE, then the one COMMIT that is left", s.accepted(0), PREPARES | commit(4, 2));
        answers.due("there is no quorum", s.confirmed(0), 0);
        answers.due("the other has not settled", s.accepted(1), 0);
    }

    // ---- confirming

    private static void confirmsOnlyWhatItAccepted() {
        answers.about("Terms: It CONFIRMS a statement that it has accepted and not confirmed");
        SliceVoting s = Networks.puppet();
        s.say(0, 1, 0, commit(1, 0));
        s.say(0, 1, 0, commit(1, 1));
        answers.due("COMMIT (1, 1) is not accepted", s.accepted(1), commit(1, 0));
        answers.due("nor confirmed", s.confirmed(1), commit(1, 0));
        SliceVoting votes = Networks.puppet();
        votes.propose(1, 1, 0);
        votes.say(0, 1, prepare(1, 0), 0);
        answers.due("accepted by votes", votes.accepted(1), prepare(1, 0));
        answers.due("votes confirm nothing", votes.confirmed(1), 0);
    }

    private static void confirmsInAQuorumWithItself() {
        answers.about("Terms: if there is a quorum with itself in it of whose nodes it knows that each has accepted it");
        SliceVoting s = Networks.allTrustAll(4, 3);
        s.corrupt(1);
        s.corrupt(2);
        s.corrupt(3);
        s.propose(0, 1, 0);
        s.say(1, 0, prepare(1, 0), prepare(1, 0));
        s.say(2, 0, prepare(1, 0), 0);
        answers.due("accepted", s.accepted(0), prepare(1, 0));
        answers.due("two of three accepted it", s.confirmed(0), 0);
        s.say(3, 0, prepare(1, 0), 0);
        answers.due("votes do not help", s.confirmed(0), 0);
        s.say(3, 0, 0, prepare(1, 0));
        answers.due("three of three", s.confirmed(0), prepare(1, 0));
        // Node 1 blocks node 0, but has no top quota, so that node 0 is in no quorum with it.
        SliceVoting t = new SliceVoting(2);
        Networks.top(t, 0, 2, 3);
        t.corrupt(1);
        t.say(1, 0, -1, prepare(1, 0));
        answers.due("accepted", t.accepted(0), prepare(1, 0));
        answers.due("in no quorum", t.confirmed(0), 0);
    }

    // ---- voting for COMMIT

    private static void votesForCommitOnlyWithACounter() {
        answers.about("Terms: It VOTES for COMMIT .. if .. its counter is not 0");
        SliceVoting s = Networks.puppet();
        s.say(0, 1, 0, PREPARES);
        answers.due("every PREPARE is confirmed", s.confirmed(1), PREPARES);
        answers.due("counter 0", s.counter(1), 0);
        answers.due("it votes for nothing", s.voted(1), 0);
    }

    private static void votesForCommitOnlyOfItsOwnBallot() {
        answers.about("Terms: It VOTES for COMMIT of the ballot of its counter and its value");
        for (int c = 1; c <= 4; c++) {
            for (int x = 0; x <= 2; x++) {
                SliceVoting s = Networks.puppet();
                s.propose(1, c, x);
                int prepares = s.voted(1);
                int lesser = (prepare(c, x) - 1) & prepares;
                s.say(0, 1, 0, lesser);
                answers.due("lesser ballots are confirmed", s.voted(1), prepares);
                s.say(0, 1, 0, prepare(c, x));
                answers.due("its own is confirmed", s.voted(1), prepares | commit(c, x));
                s.say(0, 1, 0, prepare(4, x));
                answers.due("COMMIT of no greater one", s.voted(1), prepares | commit(c, x));
            }
        }
    }

    private static void votesForCommitOnlyWhenPrepareIsConfirmed() {
        answers.about("Terms: It VOTES for COMMIT .. if .. it has confirmed PREPARE of that ballot");
        SliceVoting s = new SliceVoting(2);
        Networks.top(s, 0, 2, 3);
        s.corrupt(1);
        s.propose(0, 1, 0);
        s.say(1, 0, -1, prepare(1, 0));
        answers.due("accepted", s.accepted(0), prepare(1, 0));
        answers.due("accepted is not enough", s.voted(0), prepare(1, 0));
        // It confirmed PREPARE before it went on to that ballot, and votes as it proposes.
        SliceVoting t = Networks.puppet();
        t.say(0, 1, 0, prepare(2, 1));
        t.propose(1, 1, 1);
        answers.due("counter 1", t.voted(1), prepare(1, 1));
        t.propose(1, 2, 1);
        answers.due("counter 2", t.voted(1), prepare(1, 1) | prepare(2, 1) | commit(2, 1));
        t.propose(1, 3, 1);
        answers.due("counter 3", t.voted(1), prepare(1, 1) | prepare(2, 1) | commit(2, 1) | prepare(3, 1));
    }

    private static void votesForCommitOnlyIfTheRuleLetsIt() {
        answers.about("Terms: It VOTES for COMMIT .. if .. the rule for votes above lets it");
        // Counters only go up, so every PREPARE for which it voted with another value is of a lesser ballot.
        SliceVoting lesser = Networks.puppet();
        lesser.propose(1, 2, 2);
        lesser.propose(1, 3, 0);
        int votes = lesser.voted(1);
        lesser.say(0, 1, 0, prepare(3, 0));
        answers.due("lesser PREPARE hinder nothing", lesser.voted(1), votes | commit(3, 0));

        // A COMMIT for which it voted hinders: it has voted for no PREPARE greater than (3, 2).
        SliceVoting byCommit = Networks.puppet();
        byCommit.say(0, 1, 0, prepare(2, 1));
        byCommit.propose(1, 2, 1);
        byCommit.say(0, 1, 0, prepare(3, 2));
        answers.due("value 2", byCommit.propose(1, 3, 1), 2);
        answers.due("PREPARE (3, 2) is confirmed", byCommit.confirmed(1), prepare(2, 1) | prepare(3, 2));
        answers.due("COMMIT (2, 1) hinders COMMIT (3, 2)", byCommit.voted(1),
            prepare(1, 1) | prepare(2, 1) | commit(2, 1) | prepare(1, 2));

        // An accepted PREPARE hinders only when it is greater: (2, 2) does, (2, 0) does not.
        SliceVoting below = Networks.puppet();
        below.propose(1, 2, 1);
        below.say(0, 1, 0, prepare(2, 0) | prepare(2, 1));
        answers.due("PREPARE (2, 0) does not hinder COMMIT (2, 1)", below.voted(1) & ~PREPARES, commit(2, 1));
        SliceVoting above = Networks.puppet();
        above.propose(1, 2, 1);
        above.say(0, 1, 0, prepare(2, 1) | prepare(2, 2));
        answers.due("PREPARE (2, 2) hinders COMMIT (2, 1)", above.voted(1) & ~PREPARES, 0);
    }

    private static void votesForCommitThenGoesFromTheTopAgain() {
        answers.about("Terms: and then from the top again");
        SliceVoting s = Networks.alone();
        s.propose(0, 4, 1);
        int all = prepare(1, 1) | prepare(2, 1) | prepare(3, 1) | prepare(4, 1) | commit(4, 1);
        answers.due("voted", s.voted(0), all);
        answers.due("accepted, its COMMIT too", s.accepted(0), all);
        answers.due("confirmed, its COMMIT too", s.confirmed(0), all);
        answers.due("decided", s.decided(0), 1);
        // The most that one call can do: all PREPARE, the COMMIT that is left, and its own vote.
        SliceVoting most = Networks.puppet();
        most.propose(1, 4, 2);
        most.say(0, 1, -1, -1);
        answers.due("accepted", most.accepted(1), PREPARES | commit(4, 2));
        answers.due("confirmed", most.confirmed(1), PREPARES | commit(4, 2));
        answers.due("voted", most.voted(1), prepare(1, 2) | prepare(2, 2) | prepare(3, 2) | prepare(4, 2) | commit(4, 2));
    }

    // ---- deciding and the order of steps

    private static void decidesForTheFirstTime() {
        answers.about("Terms: When it confirms COMMIT of a ballot for the first time, it DECIDES the ballot's value");
        for (int ballot = 0; ballot < 12; ballot++) {
            SliceVoting s = Networks.puppet();
            s.say(0, 1, 0, 1 << 12 + ballot);
            answers.due("COMMIT of ballot " + ballot, s.decided(1), ballot % 3);
            s.say(0, 1, 0, -1);
            answers.due("it stays", s.decided(1), ballot % 3);
            answers.due("its value is another matter", s.value(1), 0);
        }
    }

    private static void leastStatementFirst() {
        answers.about("Terms: the first one that is possible is taken, for the least statement for which it is possible");
        SliceVoting prepareFirst = Networks.puppet();
        prepareFirst.say(0, 1, 0, prepare(4, 1) | commit(1, 0) | commit(4, 2));
        answers.due("PREPARE (4, 1) goes before COMMIT (1, 0)", prepareFirst.accepted(1), prepare(4, 1) | commit(4, 2));
        SliceVoting commits = Networks.puppet();
        commits.say(0, 1, 0, commit(1, 1) | commit(1, 2) | commit(4, 0));
        answers.due("COMMIT (1, 1) goes before the others", commits.accepted(1), commit(1, 1));
        answers.due("it is decided", commits.decided(1), 1);
        SliceVoting all = Networks.puppet();
        all.say(0, 1, 0, ~PREPARES);
        answers.due("all COMMIT of value 0", all.accepted(1), commit(1, 0) | commit(2, 0) | commit(3, 0) | commit(4, 0));
        answers.due("it is decided", all.decided(1), 0);
    }

    private static void acceptingGoesBeforeVoting() {
        answers.about("Terms: as long as one of these steps is possible, the first one that is possible is taken");
        // If it voted before it accepts PREPARE (2, 0), it would vote for COMMIT (1, 1).
        SliceVoting s = Networks.puppet();
        s.propose(1, 1, 1);
        s.say(0, 1, 0, prepare(1, 1) | prepare(2, 0));
        answers.due("no vote for COMMIT (1, 1)", s.voted(1), prepare(1, 1));
        SliceVoting t = Networks.puppet();
        t.propose(1, 1, 1);
        t.say(0, 1, 0, prepare(1, 1));
        t.say(0, 1, 0, prepare(1, 1) | prepare(2, 0));
        answers.due("the vote came first here", t.voted(1), prepare(1, 1) | commit(1, 1));
        answers.due("that does not hinder accepting", t.accepted(1), prepare(1, 1) | prepare(2, 0));
    }

    private static void onlyTheOneThatHearsSettles() {
        answers.about("Promise 6: Node w hears .. and settles (no other does)");
        SliceVoting s = Networks.allTrustAll(3, 3);
        s.propose(0, 1, 0);
        s.propose(1, 1, 0);
        s.propose(2, 1, 0);
        s.deliver(1, 0);
        s.deliver(2, 0);
        answers.due("node 0 accepted", s.accepted(0), prepare(1, 0));
        answers.due("node 1 did not", s.accepted(1), 0);
        answers.due("node 2 did not", s.accepted(2), 0);
        answers.due("node 1 knows nothing of it", s.known(1, 0, true), 0);
    }

    // ---- ill-behaved nodes

    private static void illBehavedKeepsWhatItHad() {
        answers.about("Terms: An ill-behaved node keeps the sets, the counter, the value and the decision that it had when it was corrupted");
        SliceVoting s = Networks.allTrustAll(2, 1);
        s.propose(0, 2, 2);
        int all = prepare(1, 2) | prepare(2, 2) | commit(2, 2);
        s.corrupt(0);
        s.say(0, 1, 0, 0);
        s.say(0, 1, 1, 1);
        s.propose(0, 3, 1);
        s.deliver(1, 0);
        answers.due("voted", s.voted(0), all);
        answers.due("accepted", s.accepted(0), all);
        answers.due("confirmed", s.confirmed(0), all);
        answers.due("counter", s.counter(0), 2);
        answers.due("value", s.value(0), 2);
        answers.due("decided", s.decided(0), 2);
        answers.due("what it knows of itself", s.known(0, 0, true), all);
        SliceVoting heard = Networks.allTrustAll(2, 2);
        heard.propose(1, 1, 2);
        heard.deliver(1, 0);
        heard.corrupt(0);
        heard.propose(1, 2, 2);
        heard.deliver(1, 0);
        answers.due("what it had heard", heard.known(0, 1, false), prepare(1, 2));
        SliceVoting fresh = Networks.allTrustAll(2, 1);
        fresh.corrupt(0);
        fresh.say(0, 1, -1, -1);
        answers.due("one that had nothing", fresh.voted(0) | fresh.accepted(0) | fresh.confirmed(0), 0);
        answers.due("one that had decided nothing", fresh.decided(0), NONE);
    }

    private static void illBehavedDoesNotSettle() {
        answers.about("Terms: it does not settle");
        // The empty set blocks both nodes: each would accept every PREPARE if it settled.
        SliceVoting s = Networks.allTrustAll(2, 3);
        s.corrupt(0);
        answers.due("being corrupted", s.accepted(0), 0);
        s.say(0, 1, 0, 0);
        answers.due("saying", s.accepted(0), 0);
        answers.due("the one that hears does", s.accepted(1), PREPARES | commit(4, 2));
        s.propose(0, 1, 0);
        s.deliver(1, 0);
        s.say(0, 0, 0, 0);
        answers.due("refused calls", s.accepted(0), 0);
    }
}
