/** Promises 5 to 14: propose, deliver, say, and what can be seen of a node. */
final class VotingTest {
    private static final int NONE = SliceVoting.NONE;
    private static final Answers answers = new Answers();

    public static void main(String[] args) {
        proposeVotes();
        proposeRefusals();
        proposeTakesAcceptedCommit();
        proposeTakesGreatestConfirmedPrepare();
        proposeLeavesContradictions();
        proposeSettles();
        withoutAnyQuota();
        deliver();
        deliverRefusals();
        deliverSettlesAgain();
        say();
        sayRefusals();
        sayMasks();
        acceptByQuorum();
        acceptByBlocking();
        itsOwnVoteDoesNotBlock();
        emptySetBlocks();
        contradictions();
        acceptDespiteVotes();
        confirmNeedsAccepts();
        leastFirst();
        voteForCommitNeedsItsOwnBallot();
        voteForCommitIsLeftWhenContradicted();
        longestSettling();
        firstDecision();
        illBehavedKeeps();
        noNode();
        agreement();
        answers.end();
    }

    private static int prepare(int counter, int value) {
        return Networks.prepare(counter, value);
    }

    private static int commit(int counter, int value) {
        return Networks.commit(counter, value);
    }

    private static void proposeVotes() {
        for (int x = 0; x < 3; x++) {
            for (int c = 1; c <= 4; c++) {
                SliceVoting s = Networks.allTrustAll(2, 2);
                int want = 0;
                for (int counter = 1; counter <= c; counter++) {
                    want |= prepare(counter, x);
                }
                answers.due("propose(1, " + c + ", " + x + ")", s.propose(1, c, x), x);
                answers.due("voted", s.voted(1), want);
                answers.due("counter", s.counter(1), c);
                answers.due("value", s.value(1), x);
                answers.due("accepted", s.accepted(1), 0);
                answers.due("known of itself", s.known(1, 1, false), want);
                answers.due("the other node has heard nothing", s.known(0, 1, false), 0);
                answers.due("the other node has not voted", s.voted(0), 0);
            }
        }
    }

    private static void proposeRefusals() {
        SliceVoting s = Networks.allTrustAll(3, 3);
        s.corrupt(2);
        answers.due("propose(0, 2, 1)", s.propose(0, 2, 1), 1);
        String before = Answers.picture(s, 3);
        int[] counters = {2, 1, 0, -1, 5, 6, Integer.MIN_VALUE, Integer.MAX_VALUE};
        for (int c : counters) {
            answers.due("propose(0, " + c + ", 1)", s.propose(0, c, 1), NONE);
        }
        int[] counters0 = {0, -1, 5, Integer.MIN_VALUE, Integer.MAX_VALUE};
        for (int c : counters0) {
            answers.due("propose(1, " + c + ", 1)", s.propose(1, c, 1), NONE);
        }
        int[] values = {-1, 3, 4, Integer.MIN_VALUE, Integer.MAX_VALUE};
        for (int x : values) {
            answers.due("propose(0, 3, " + x + ")", s.propose(0, 3, x), NONE);
        }
        int[] noNodes = {-1, 3, 6, 32, Integer.MIN_VALUE, Integer.MAX_VALUE};
        for (int v : noNodes) {
            answers.due("propose(" + v + ", 1, 0)", s.propose(v, 1, 0), NONE);
        }
        answers.due("an ill-behaved node", s.propose(2, 1, 0), NONE);
        answers.same("a refused propose", s, 3, before);
        answers.due("one more", s.propose(0, 3, 2), 2);
        answers.due("the last", s.propose(0, 4, 0), 0);
        answers.due("after the last", s.propose(0, 4, 0), NONE);
        answers.due("all votes stay", s.voted(0),
            prepare(1, 1) | prepare(2, 1)
            | prepare(1, 2) | prepare(2, 2) | prepare(3, 2)
            | prepare(1, 0) | prepare(2, 0) | prepare(3, 0) | prepare(4, 0));
    }

    private static void proposeTakesAcceptedCommit() {
        SliceVoting s = Networks.allTrustAll(5, 4);
        s.corrupt(3);
        s.corrupt(4);
        // Nodes 3 and 4 block node 0, but it takes four to confirm.
        s.say(3, 0, 0, commit(1, 1));
        s.say(4, 0, 0, commit(1, 1));
        answers.due("accepted", s.accepted(0), commit(1, 1));
        answers.due("confirmed", s.confirmed(0), 0);
        answers.due("the value of the accepted COMMIT", s.propose(0, 2, 2), 1);
        answers.due("value", s.value(0), 1);
        answers.due("voted", s.voted(0), prepare(1, 1) | prepare(2, 1));

        SliceVoting both = Networks.puppet();
        both.say(0, 1, 0, prepare(2, 0) | prepare(1, 2) | commit(2, 0));
        answers.due("confirmed", both.confirmed(1), prepare(2, 0) | prepare(1, 2) | commit(2, 0));
        both.say(0, 1, 0, prepare(3, 0));
        answers.due("COMMIT goes before PREPARE and x", both.propose(1, 1, 1), 0);
    }

    private static void proposeTakesGreatestConfirmedPrepare() {
        SliceVoting s = Networks.puppet();
        s.say(0, 1, 0, prepare(1, 0) | prepare(2, 1) | prepare(1, 2));
        answers.due("confirmed", s.confirmed(1), prepare(1, 0) | prepare(2, 1) | prepare(1, 2));
        answers.due("the value of the greatest ballot", s.propose(1, 1, 0), 1);
        s.say(0, 1, 0, prepare(2, 2));
        answers.due("a greater one", s.propose(1, 2, 0), 2);
        SliceVoting accepted = Networks.allTrustAll(5, 4);
        accepted.corrupt(3);
        accepted.corrupt(4);
        accepted.say(3, 0, 0, prepare(1, 1));
        accepted.say(4, 0, 0, prepare(1, 1));
        answers.due("accepted", accepted.accepted(0), prepare(1, 1));
        answers.due("confirmed", accepted.confirmed(0), 0);
        answers.due("a PREPARE that is only accepted counts nothing", accepted.propose(0, 1, 2), 2);
    }

    private static void proposeLeavesContradictions() {
        SliceVoting s = Networks.alone();
        answers.due("value", s.propose(0, 1, 0), 0);
        answers.due("it decides alone", s.decided(0), 0);
        answers.due("voted", s.voted(0), prepare(1, 0) | commit(1, 0));
        answers.due("it keeps the value", s.propose(0, 2, 1), 0);
        answers.due("confirmed", s.confirmed(0), prepare(1, 0) | prepare(2, 0) | commit(1, 0) | commit(2, 0));

        // Node 0 votes for COMMIT of (2, 1), and then takes the value 2 of a greater confirmed ballot.
        SliceVoting t = Networks.puppet();
        t.say(0, 1, 0, prepare(2, 1));
        answers.due("value 1", t.propose(1, 2, 1), 1);
        answers.due("it votes for COMMIT", t.voted(1), prepare(1, 1) | prepare(2, 1) | commit(2, 1));
        t.say(0, 1, 0, prepare(3, 2));
        answers.due("confirmed", t.confirmed(1), prepare(2, 1) | prepare(3, 2));
        answers.due("value 2", t.propose(1, 4, 1), 2);
        answers.due("PREPARE of lesser ballots only", t.voted(1),
            prepare(1, 1) | prepare(2, 1) | commit(2, 1) | prepare(1, 2));
        answers.due("the counter goes on all the same", t.counter(1), 4);
        answers.due("so does the value", t.value(1), 2);
    }

    private static void proposeSettles() {
        SliceVoting s = Networks.alone();
        s.propose(0, 3, 2);
        int prepares = prepare(1, 2) | prepare(2, 2) | prepare(3, 2);
        answers.due("voted", s.voted(0), prepares | commit(3, 2));
        answers.due("accepted", s.accepted(0), prepares | commit(3, 2));
        answers.due("confirmed", s.confirmed(0), prepares | commit(3, 2));
        answers.due("decided", s.decided(0), 2);
    }

    private static void withoutAnyQuota() {
        SliceVoting s = new SliceVoting(2);
        s.corrupt(1);
        answers.due("propose", s.propose(0, 1, 1), 1);
        s.say(1, 0, -1, -1);
        answers.due("voted", s.voted(0), prepare(1, 1));
        answers.due("a node without a top quota accepts nothing", s.accepted(0), 0);
        answers.due("and confirms nothing", s.confirmed(0), 0);
    }

    private static void deliver() {
        SliceVoting s = Networks.allTrustAll(3, 3);
        s.propose(0, 1, 1);
        answers.due("deliver(0, 1)", s.deliver(0, 1), true);
        answers.due("known(1, 0)", s.known(1, 0, false), prepare(1, 1));
        answers.due("known(1, 0) accepted", s.known(1, 0, true), 0);
        answers.due("known(2, 0)", s.known(2, 0, false), 0);
        answers.due("known(0, 1)", s.known(0, 1, false), 0);
        s.propose(0, 2, 1);
        answers.due("what it heard last stays", s.known(1, 0, false), prepare(1, 1));
        answers.due("deliver(0, 1)", s.deliver(0, 1), true);
        answers.due("known(1, 0) as it is now", s.known(1, 0, false), prepare(1, 1) | prepare(2, 1));
        answers.due("hearing is no voting", s.voted(1), 0);
        answers.due("node 2 may be heard, too, though it has nothing to say", s.deliver(2, 1), true);
        answers.due("known(1, 2)", s.known(1, 2, false), 0);
        SliceVoting t = Networks.allTrustAll(2, 1);
        t.propose(0, 1, 0);
        answers.due("accepted", t.accepted(0), prepare(1, 0) | commit(1, 0));
        answers.due("deliver", t.deliver(0, 1), true);
        answers.due("known votes", t.known(1, 0, false), prepare(1, 0) | commit(1, 0));
        answers.due("known accepts", t.known(1, 0, true), prepare(1, 0) | commit(1, 0));
    }

    private static void deliverRefusals() {
        SliceVoting s = Networks.allTrustAll(4, 2);
        s.propose(0, 1, 1);
        s.propose(3, 1, 1);
        s.corrupt(3);
        String before = Answers.picture(s, 4);
        int[] noNodes = {-1, 4, 6, 32, Integer.MIN_VALUE, Integer.MAX_VALUE};
        for (int v : noNodes) {
            answers.due("deliver(" + v + ", 0)", s.deliver(v, 0), false);
            answers.due("deliver(0, " + v + ")", s.deliver(0, v), false);
        }
        answers.due("to itself", s.deliver(0, 0), false);
        answers.due("from an ill-behaved node", s.deliver(3, 0), false);
        answers.due("to an ill-behaved node", s.deliver(0, 3), false);
        answers.due("an ill-behaved node to itself", s.deliver(3, 3), false);
        answers.same("a refused deliver", s, 4, before);
    }

    private static void deliverSettlesAgain() {
        SliceVoting s = Networks.allTrustAll(2, 2);
        s.propose(0, 1, 1);
        s.propose(1, 1, 1);
        answers.due("deliver", s.deliver(0, 1), true);
        answers.due("accepted", s.accepted(1), prepare(1, 1));
        answers.due("deliver the same", s.deliver(0, 1), true);
        answers.due("accepted", s.accepted(1), prepare(1, 1));
        answers.due("confirmed", s.confirmed(1), 0);
        // The empty set blocks node 1, so that all it needs is an occasion to settle.
        SliceVoting t = new SliceVoting(2);
        Networks.top(t, 1, 3, 3);
        answers.due("deliver nothing", t.deliver(0, 1), true);
        answers.due("it settled all the same", t.accepted(1), 0xFFF | commit(4, 2));
    }

    private static void say() {
        SliceVoting s = Networks.puppet();
        answers.due("say", s.say(0, 1, 5, 0), true);
        answers.due("known votes", s.known(1, 0, false), 5);
        answers.due("known accepts", s.known(1, 0, true), 0);
        answers.due("say", s.say(0, 1, 2, 8), true);
        answers.due("known votes, in place of the former", s.known(1, 0, false), 2);
        answers.due("known accepts", s.known(1, 0, true), 8);
        answers.due("accepted", s.accepted(1), 8);
        answers.due("confirmed", s.confirmed(1), 8);
        answers.due("say nothing", s.say(0, 1, 0, 0), true);
        answers.due("known votes", s.known(1, 0, false), 0);
        answers.due("known accepts", s.known(1, 0, true), 0);
        answers.due("accepted stays", s.accepted(1), 8);
        answers.due("what it says is not what it has", s.voted(0) | s.accepted(0), 0);
        SliceVoting t = Networks.allTrustAll(3, 3);
        t.propose(0, 1, 0);
        t.deliver(0, 1);
        t.corrupt(0);
        t.say(0, 1, 2, 0);
        answers.due("in place of what was delivered", t.known(1, 0, false), 2);
        answers.due("only to the one who hears", t.known(2, 0, false), 0);
    }

    private static void sayRefusals() {
        SliceVoting s = Networks.allTrustAll(4, 2);
        s.propose(0, 1, 1);
        s.corrupt(3);
        s.corrupt(2);
        String before = Answers.picture(s, 4);
        int[] noNodes = {-1, 4, 6, 32, Integer.MIN_VALUE, Integer.MAX_VALUE};
        for (int v : noNodes) {
            answers.due("say(" + v + ", 0)", s.say(v, 0, 2, 2), false);
            answers.due("say(3, " + v + ")", s.say(3, v, 2, 2), false);
        }
        answers.due("from a well-behaved node", s.say(0, 1, 2, 2), false);
        answers.due("from a well-behaved node to itself", s.say(1, 1, 2, 2), false);
        answers.due("to an ill-behaved node", s.say(3, 2, 2, 2), false);
        answers.due("to itself", s.say(3, 3, 2, 2), false);
        answers.same("a refused say", s, 4, before);
        answers.due("to a well-behaved node", s.say(3, 0, 2, 2), true);
    }

    private static void sayMasks() {
        SliceVoting s = Networks.allTrustAll(3, 3);
        s.corrupt(0);
        answers.due("say(-1, -1)", s.say(0, 1, -1, -1), true);
        answers.due("votes", s.known(1, 0, false), 0xFFFFFF);
        answers.due("accepts", s.known(1, 0, true), 0xFFFFFF);
        answers.due("say", s.say(0, 2, 0x7F000001, 0x81000002), true);
        answers.due("votes", s.known(2, 0, false), 1);
        answers.due("accepts", s.known(2, 0, true), 2);
    }

    private static void acceptByQuorum() {
        SliceVoting s = Networks.allTrustAll(4, 3);
        s.propose(0, 1, 1);
        s.propose(1, 1, 1);
        s.propose(2, 1, 1);
        s.deliver(0, 3);
        s.deliver(1, 3);
        s.deliver(2, 3);
        answers.due("a quorum without itself in it", s.accepted(3), 0);
        s.deliver(1, 0);
        answers.due("two of three", s.accepted(0), 0);
        s.deliver(2, 0);
        answers.due("three", s.accepted(0), prepare(1, 1));
        s.deliver(0, 1);
        answers.due("one that voted and accepted, and itself", s.accepted(1), 0);
        s.deliver(2, 1);
        answers.due("votes and accepts together", s.accepted(1), prepare(1, 1));

        // Node 1 needs node 2, which is not heard: the quota of node 0 is met, but there is no quorum.
        SliceVoting t = new SliceVoting(3);
        Networks.top(t, 0, 2, 3);
        Networks.top(t, 1, 3, 7);
        Networks.top(t, 2, 1, 4);
        t.propose(0, 1, 0);
        t.propose(1, 1, 0);
        t.deliver(1, 0);
        answers.due("no quorum yet", t.accepted(0), 0);
        t.propose(2, 1, 0);
        t.deliver(2, 0);
        answers.due("a quorum", t.accepted(0) & prepare(1, 0), prepare(1, 0));

        SliceVoting mixed = Networks.allTrustAll(4, 3);
        mixed.corrupt(1);
        mixed.corrupt(2);
        mixed.propose(0, 1, 2);
        mixed.say(1, 0, 0, prepare(1, 2));
        answers.due("its own vote and one that accepted", mixed.accepted(0), 0);
        mixed.say(2, 0, prepare(1, 2), 0);
        answers.due("two votes and one that accepted without a vote", mixed.accepted(0), prepare(1, 2));

        SliceVoting ownVoteOnly = new SliceVoting(3);
        Networks.top(ownVoteOnly, 0, 2, 3);
        Networks.top(ownVoteOnly, 1, 1, 2);
        ownVoteOnly.corrupt(1);
        ownVoteOnly.say(1, 0, prepare(1, 2), 0);
        answers.due("without a vote of its own", ownVoteOnly.accepted(0), 0);
        ownVoteOnly.propose(0, 1, 2);
        answers.due("with a vote of its own", ownVoteOnly.accepted(0), prepare(1, 2));
        answers.due("votes confirm nothing", ownVoteOnly.confirmed(0), 0);
    }

    private static void acceptByBlocking() {
        SliceVoting s = Networks.allTrustAll(4, 3);
        s.corrupt(1);
        s.corrupt(2);
        s.say(1, 0, prepare(1, 0), prepare(1, 0));
        answers.due("one does not block", s.accepted(0), 0);
        s.say(2, 0, prepare(1, 0), 0);
        answers.due("a vote does not block", s.accepted(0), 0);
        s.say(2, 0, 0, prepare(1, 0));
        answers.due("two block", s.accepted(0), prepare(1, 0));
        answers.due("it has not voted", s.voted(0), 0);
        answers.due("three accepted it", s.confirmed(0), prepare(1, 0));
    }

    private static void itsOwnVoteDoesNotBlock() {
        // Node 0 is needed by itself; {0} blocks node 0, but only nodes other than itself count.
        SliceVoting s = new SliceVoting(3);
        Networks.top(s, 0, 3, 7);
        Networks.top(s, 1, 1, 2);
        Networks.top(s, 2, 1, 4);
        answers.due("it blocks itself", s.blocks(1, 0), true);
        s.propose(0, 1, 0);
        answers.due("accepted", s.accepted(0), 0);
    }

    private static void emptySetBlocks() {
        SliceVoting s = new SliceVoting(1);
        s.quota(0, NONE, 9);
        answers.due("the empty set blocks", s.blocks(0, 0), true);
        answers.due("propose", s.propose(0, 1, 1), 1);
        answers.due("all PREPARE, then the only COMMIT left", s.accepted(0), 0xFFF | commit(4, 2));
        answers.due("no quorum, nothing confirmed", s.confirmed(0), 0);
        answers.due("the value of the accepted COMMIT", s.propose(0, 2, 0), 2);
    }

    /** For each pair of statements: the first is accepted, then the second is said to be accepted. */
    private static void contradictions() {
        for (int a = 0; a < 24; a++) {
            for (int b = 0; b < 24; b++) {
                SliceVoting s = Networks.puppet();
                s.say(0, 1, 0, 1 << a);
                s.say(0, 1, 0, 1 << b);
                int want = 1 << a | (contradict(a, b) ? 0 : 1 << b);
                answers.due("accepted of " + a + " then " + b, s.accepted(1), want);
                answers.due("confirmed of " + a + " then " + b, s.confirmed(1), want);
            }
        }
    }

    private static boolean contradict(int a, int b) {
        boolean differ = a % 3 != b % 3;
        if (a < 12 && b < 12) {
            return false;
        }
        if (a >= 12 && b >= 12) {
            return differ;
        }
        int committed = Math.max(a, b) - 12;
        int prepared = Math.min(a, b);
        return differ && prepared > committed;
    }

    private static void acceptDespiteVotes() {
        SliceVoting s = Networks.puppet();
        s.say(0, 1, 0, prepare(1, 1));
        s.propose(1, 1, 1);
        answers.due("voted for COMMIT", s.voted(1), prepare(1, 1) | commit(1, 1));
        s.say(0, 1, 0, prepare(2, 0) | commit(2, 0));
        answers.due("its own votes hinder no accepting", s.accepted(1), prepare(1, 1) | prepare(2, 0) | commit(2, 0));
        answers.due("it decides", s.decided(1), 0);
        answers.due("its votes stay", s.voted(1), prepare(1, 1) | commit(1, 1));
    }

    private static void confirmNeedsAccepts() {
        SliceVoting s = Networks.allTrustAll(3, 2);
        s.propose(0, 1, 0);
        s.propose(1, 1, 0);
        s.deliver(0, 1);
        answers.due("accepted", s.accepted(1), prepare(1, 0));
        answers.due("only itself is known to have accepted", s.confirmed(1), 0);
        answers.due("an accepted PREPARE is no reason to vote for COMMIT", s.voted(1), prepare(1, 0));
        s.deliver(1, 0);
        answers.due("two accepted", s.confirmed(0), prepare(1, 0));
        answers.due("it votes for COMMIT", s.voted(0), prepare(1, 0) | commit(1, 0));
        answers.due("one that does not vote", s.deliver(0, 2), true);
        answers.due("does not accept by one", s.accepted(2), 0);
        s.deliver(1, 2);
        answers.due("accepts by two that block", s.accepted(2), prepare(1, 0));
        answers.due("and confirms at once", s.confirmed(2), prepare(1, 0));
        answers.due("but has no ballot to commit", s.voted(2), 0);
    }

    private static void leastFirst() {
        SliceVoting s = Networks.puppet();
        s.say(0, 1, 0, commit(1, 0) | prepare(1, 1) | prepare(1, 2));
        answers.due("PREPARE before the COMMIT that it contradicts", s.accepted(1), prepare(1, 1) | prepare(1, 2));
        SliceVoting t = Networks.puppet();
        t.say(0, 1, 0, commit(1, 2) | commit(2, 0) | commit(2, 1) | commit(3, 2));
        answers.due("the least COMMIT, and those of its value", t.accepted(1), commit(1, 2) | commit(3, 2));
        answers.due("decided", t.decided(1), 2);

        // Node 0 accepts by blocking. Once it accepts PREPARE (2, 1), COMMIT (1, 0) is out of reach.
        SliceVoting first = Networks.puppet();
        first.say(0, 1, 0, commit(1, 0));
        first.say(0, 1, 0, commit(1, 0) | prepare(2, 1));
        answers.due("what was accepted first stays", first.accepted(1), commit(1, 0));

        // Accepting goes before voting: the vote for COMMIT (1, 0) is hindered by PREPARE (2, 1).
        SliceVoting order = Networks.puppet();
        order.propose(1, 1, 0);
        order.say(0, 1, 0, prepare(1, 0) | prepare(2, 1));
        answers.due("no vote for COMMIT", order.voted(1), prepare(1, 0));
    }

    private static void voteForCommitNeedsItsOwnBallot() {
        SliceVoting s = Networks.puppet();
        s.say(0, 1, 0, prepare(1, 0));
        answers.due("no ballot, no vote", s.voted(1), 0);
        answers.due("confirmed", s.confirmed(1), prepare(1, 0));
        s.propose(1, 2, 0);
        answers.due("the ballot of its counter is not confirmed", s.voted(1), prepare(1, 0) | prepare(2, 0));
        s.say(0, 1, 0, prepare(3, 0));
        answers.due("nor by a greater one", s.voted(1), prepare(1, 0) | prepare(2, 0));
        s.say(0, 1, 0, prepare(2, 0));
        answers.due("it votes for COMMIT", s.voted(1), prepare(1, 0) | prepare(2, 0) | commit(2, 0));
    }

    private static void voteForCommitIsLeftWhenContradicted() {
        SliceVoting s = Networks.puppet();
        s.propose(1, 2, 1);
        s.propose(1, 3, 0);
        int votes = prepare(1, 1) | prepare(2, 1) | prepare(1, 0) | prepare(2, 0) | prepare(3, 0);
        answers.due("voted", s.voted(1), votes);
        s.say(0, 1, 0, prepare(3, 0));
        answers.due("lesser PREPARE do not hinder", s.voted(1), votes | commit(3, 0));
        s.say(0, 1, 0, prepare(4, 1));
        answers.due("confirmed", s.confirmed(1), prepare(3, 0) | prepare(4, 1));
        answers.due("it takes the value of the greatest", s.propose(1, 4, 2), 1);
        answers.due("its votes hinder PREPARE (4, 1) and COMMIT", s.voted(1), votes | commit(3, 0));

        SliceVoting t = Networks.puppet();
        t.propose(1, 1, 0);
        t.say(0, 1, 0, prepare(2, 1));
        t.say(0, 1, 0, prepare(1, 0));
        answers.due("confirmed", t.confirmed(1), prepare(1, 0) | prepare(2, 1));
        answers.due("an accepted PREPARE hinders the vote", t.voted(1), prepare(1, 0));
    }

    private static void longestSettling() {
        SliceVoting s = Networks.puppet();
        s.propose(1, 4, 2);
        s.say(0, 1, 0, -1);
        answers.due("accepted", s.accepted(1), 0xFFF | commit(4, 2));
        answers.due("confirmed", s.confirmed(1), 0xFFF | commit(4, 2));
        answers.due("voted", s.voted(1),
            prepare(1, 2) | prepare(2, 2) | prepare(3, 2) | prepare(4, 2) | commit(4, 2));
        answers.due("decided", s.decided(1), 2);
    }

    private static void firstDecision() {
        SliceVoting s = Networks.puppet();
        answers.due("not decided", s.decided(1), NONE);
        s.say(0, 1, 0, prepare(1, 2));
        answers.due("PREPARE decides nothing", s.decided(1), NONE);
        s.say(0, 1, 0, commit(2, 2));
        answers.due("decided", s.decided(1), 2);
        s.say(0, 1, 0, commit(1, 2) | commit(1, 0));
        answers.due("decided stays", s.decided(1), 2);
        answers.due("confirmed", s.confirmed(1), prepare(1, 2) | commit(1, 2) | commit(2, 2));
        answers.due("deciding is no proposing", s.counter(1), 0);
        answers.due("deciding is no proposing", s.value(1), 0);
        SliceVoting blocked = Networks.allTrustAll(4, 3);
        blocked.corrupt(2);
        blocked.corrupt(3);
        blocked.say(2, 0, 0, commit(1, 0));
        blocked.say(3, 0, commit(1, 0), 0);
        answers.due("accepted by none", blocked.accepted(0), 0);
        SliceVoting zero = Networks.puppet();
        zero.say(0, 1, 0, commit(4, 0));
        answers.due("decided 0", zero.decided(1), 0);
    }

    private static void illBehavedKeeps() {
        SliceVoting s = Networks.allTrustAll(3, 2);
        s.propose(0, 2, 1);
        s.propose(1, 2, 1);
        Networks.round(s, 3);
        Networks.round(s, 3);
        Networks.round(s, 3);
        answers.due("decided", s.decided(0), 1);
        int[] before = seen(s, 0);
        answers.due("corrupt", s.corrupt(0), true);
        s.propose(1, 3, 0);
        s.propose(0, 3, 0);
        s.say(0, 1, 1, 1);
        s.say(0, 0, 1, 1);
        Networks.round(s, 3);
        int[] after = seen(s, 0);
        for (int i = 0; i < before.length; i++) {
            answers.due("kept " + i, after[i], before[i]);
        }
        answers.due("another hears what it says", s.known(1, 0, false), 1);
    }

    private static int[] seen(SliceVoting s, int v) {
        return new int[] {
            s.voted(v), s.accepted(v), s.confirmed(v), s.counter(v), s.value(v), s.decided(v),
            s.known(v, 0, false), s.known(v, 0, true), s.known(v, 1, false), s.known(v, 1, true),
            s.known(v, 2, false), s.known(v, 2, true)};
    }

    private static void noNode() {
        SliceVoting s = Networks.allTrustAll(3, 1);
        for (int v = 0; v < 3; v++) {
            s.propose(v, 1, 1);
        }
        Networks.round(s, 3);
        answers.due("decided", s.decided(2), 1);
        int[] noNodes = {-1, 3, 4, 6, 32, -32, Integer.MIN_VALUE, Integer.MAX_VALUE};
        for (int v : noNodes) {
            answers.due("voted(" + v + ")", s.voted(v), 0);
            answers.due("accepted(" + v + ")", s.accepted(v), 0);
            answers.due("confirmed(" + v + ")", s.confirmed(v), 0);
            answers.due("counter(" + v + ")", s.counter(v), 0);
            answers.due("value(" + v + ")", s.value(v), 0);
            answers.due("decided(" + v + ")", s.decided(v), NONE);
            answers.due("known(" + v + ", 0)", s.known(v, 0, false), 0);
            answers.due("known(0, " + v + ")", s.known(0, v, true), 0);
            answers.due("known(" + v + ", " + v + ")", s.known(v, v, true), 0);
        }
    }

    private static void agreement() {
        SliceVoting s = Networks.allTrustAll(4, 3);
        for (int v = 0; v < 4; v++) {
            answers.due("propose", s.propose(v, 1, v % 3), v % 3);
        }
        for (int i = 0; i < 4; i++) {
            Networks.round(s, 4);
        }
        for (int v = 0; v < 4; v++) {
            answers.due("split votes", s.decided(v), NONE);
            answers.due("propose", s.propose(v, 2, 2), 2);
        }
        for (int i = 0; i < 4; i++) {
            Networks.round(s, 4);
        }
        for (int v = 0; v < 4; v++) {
            answers.due("agreed", s.decided(v), 2);
            answers.due("confirmed", s.confirmed(v), prepare(1, 2) | prepare(2, 2) | commit(2, 2));
        }
    }
}
