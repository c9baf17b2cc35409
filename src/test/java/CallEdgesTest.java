import java.util.function.Supplier;

/** Promises 5 to 14: each sentence that names a boundary case. */
final class CallEdgesTest {
    private static final int NONE = SliceVoting.NONE;
    private static final int ALL = 0xFFFFFF;
    private static final Answers answers = new Answers();
    private static final Refusals refusals = new Refusals(answers);

    public static void main(String[] args) {
        proposeLeastAndGreatestBallot();
        proposeWithoutAnyReasonForAnotherValue();
        proposeWithAnAcceptedCommit();
        proposeWithConfirmedPrepares();
        proposeVotesFromOneToC();
        proposeSettles();
        proposeOfNoNode();
        proposeOfAnIllBehavedNode();
        proposeCounterOutsideOneToFour();
        proposeCounterNotGreater();
        proposeValueOutsideZeroToTwo();

        deliverAsTheyAreNow();
        deliverTheSameAgain();
        deliverFromNoNode();
        deliverToNoNode();
        deliverFromAnIllBehavedNode();
        deliverToAnIllBehavedNode();
        deliverToItself();

        sayLowest24Bits();
        sayInPlaceOfTheFormer();
        saySettles();
        sayFromNoNode();
        sayFromAWellBehavedNode();
        sayToNoNode();
        sayToAnIllBehavedNode();

        votedOfNoNode();
        acceptedOfNoNode();
        confirmedOfNoNode();
        counterOfNoNode();
        valueOfNoNode();
        decidedOfNoNode();
        notDecided();
        knownOfNoNode();
        knownByNoNode();
        knownOfItself();
        knownBeforeAnythingWasHeard();
        theLastCallThatAnObjectIsGoodFor();
        answers.end();
    }

    private static int prepare(int counter, int value) {
        return Networks.prepare(counter, value);
    }

    private static int commit(int counter, int value) {
        return Networks.commit(counter, value);
    }

    // ---- pasts

    /** Three nodes that have not moved; two of all three are a quorum. */
    private static SliceVoting still() {
        return Networks.allTrustAll(3, 2);
    }

    /** The same, and node 2 is ill-behaved. */
    private static SliceVoting stillWithALiar() {
        SliceVoting s = still();
        s.corrupt(2);
        return s;
    }

    /** Node 0 has voted with the counter 2, node 1 has heard it, node 2 is ill-behaved. */
    private static SliceVoting underWay() {
        SliceVoting s = Networks.allTrustAll(3, 3);
        s.propose(0, 2, 1);
        s.propose(1, 1, 2);
        s.deliver(0, 1);
        s.propose(2, 1, 0);
        s.corrupt(2);
        return s;
    }

    /** Three nodes, each a quorum for itself, that have decided 1. */
    private static SliceVoting decided() {
        SliceVoting s = Networks.allTrustAll(3, 1);
        for (int v = 0; v < 3; v++) {
            s.propose(v, 1, 1);
        }
        Networks.round(s, 3);
        return s;
    }

    // ---- promise 5

    private static void proposeLeastAndGreatestBallot() {
        answers.about("Terms: A BALLOT has a COUNTER c from 1 to 4 and a value x from 0 to 2; its number is 3 * (c - 1) + x");
        for (int c = 1; c <= 4; c++) {
            for (int x = 0; x <= 2; x++) {
                SliceVoting s = Networks.alone();
                answers.due("propose(0, " + c + ", " + x + ")", s.propose(0, c, x), x);
                int ballot = 3 * (c - 1) + x;
                answers.due("its PREPARE is statement " + ballot, s.voted(0) >> ballot & 1, 1);
                answers.due("its COMMIT is statement " + (12 + ballot), s.voted(0) >> 12, 1 << ballot);
                answers.due("counter", s.counter(0), c);
                answers.due("value", s.value(0), x);
            }
        }
    }

    private static void proposeWithoutAnyReasonForAnotherValue() {
        answers.about("Promise 5: otherwise x");
        for (int x = 0; x <= 2; x++) {
            SliceVoting s = still();
            answers.due("the first time", s.propose(0, 1, 1), 1);
            answers.due("its former value is no reason", s.propose(0, 2, x), x);
            answers.due("value", s.value(0), x);
            // Node 1 has only voted, so node 0 accepts nothing from it.
            SliceVoting heard = Networks.allTrustAll(3, 3);
            heard.propose(1, 4, (x + 1) % 3);
            heard.deliver(1, 0);
            answers.due("what it knows of others is no reason", heard.propose(0, 1, x), x);
        }
    }

    private static void proposeWithAnAcceptedCommit() {
        answers.about("Promise 5: Its value becomes the value of the statements COMMIT that it has accepted, if there are any");
        for (int c = 1; c <= 4; c++) {
            for (int x = 0; x <= 2; x++) {
                SliceVoting s = onlyAccepting();
                s.say(1, 0, 0, commit(c, x));
                answers.due("accepted", s.accepted(0), commit(c, x));
                answers.due("not confirmed", s.confirmed(0), 0);
                answers.due("the value of COMMIT", s.propose(0, 1, (x + 1) % 3), x);
                answers.due("value", s.value(0), x);
            }
        }
        SliceVoting both = Networks.puppet();
        both.say(0, 1, 0, prepare(3, 2));
        both.say(0, 1, 0, commit(4, 1));
        answers.due("PREPARE (3, 2) and COMMIT (4, 1) are confirmed", both.confirmed(1), prepare(3, 2) | commit(4, 1));
        answers.due("COMMIT goes before PREPARE", both.propose(1, 1, 0), 1);
        SliceVoting votedOnly = Networks.puppet();
        votedOnly.say(0, 1, commit(1, 1), 0);
        answers.due("a COMMIT that is not accepted counts nothing", votedOnly.propose(1, 1, 2), 2);
    }

    /** Node 1 blocks node 0, but node 0 is in no quorum: it accepts and confirms nothing. */
    private static SliceVoting onlyAccepting() {
        SliceVoting s = new SliceVoting(2);
        Networks.top(s, 0, 2, 3);
        s.corrupt(1);
        return s;
    }

    private static void proposeWithConfirmedPrepares() {
        answers.about("Promise 5: otherwise that of the greatest ballot whose PREPARE it has confirmed, if there is one");
        for (int ballot = 0; ballot < 12; ballot++) {
            SliceVoting s = Networks.puppet();
            s.say(0, 1, 0, 1 << ballot);
            answers.due("only ballot " + ballot, s.propose(1, 1, (ballot + 1) % 3), ballot % 3);
            SliceVoting lesser = Networks.puppet();
            lesser.say(0, 1, 0, (1 << ballot + 1) - 1);
            answers.due("ballot " + ballot + " and all lesser ones", lesser.propose(1, 1, (ballot + 1) % 3), ballot % 3);
        }
        SliceVoting accepted = onlyAccepting();
        accepted.say(1, 0, 0, prepare(4, 2));
        answers.due("accepted", accepted.accepted(0), prepare(4, 2));
        answers.due("a PREPARE that is not confirmed counts nothing", accepted.propose(0, 1, 1), 1);
    }

    private static void proposeVotesFromOneToC() {
        answers.about("Promise 5: Then it votes for PREPARE of the ballots with its value and the counters 1, 2, .. c");
        SliceVoting s = still();
        s.propose(0, 1, 2);
        answers.due("counter 1", s.voted(0), prepare(1, 2));
        s.propose(0, 4, 0);
        int zeros = prepare(1, 0) | prepare(2, 0) | prepare(3, 0) | prepare(4, 0);
        answers.due("counter 4, from 1 on", s.voted(0), prepare(1, 2) | zeros);
        SliceVoting t = still();
        t.propose(1, 4, 2);
        answers.due("the greatest ballot", t.voted(1), prepare(1, 2) | prepare(2, 2) | prepare(3, 2) | prepare(4, 2));
    }

    private static void proposeSettles() {
        answers.about("Promise 5: and settles");
        SliceVoting s = Networks.allTrustAll(2, 2);
        s.propose(1, 1, 1);
        s.deliver(1, 0);
        answers.due("not without its own vote", s.accepted(0), 0);
        answers.due("propose", s.propose(0, 1, 1), 1);
        answers.due("at once with its own vote", s.accepted(0), prepare(1, 1));
        SliceVoting t = new SliceVoting(1);
        t.quota(0, NONE, 1);
        answers.due("the empty set blocks it", t.propose(0, 1, 0), 0);
        answers.due("so it accepts when it settles", t.accepted(0), 0xFFF | commit(4, 2));
    }

    private static void proposeOfNoNode() {
        answers.about("Promise 5: Refused, NONE: v is no node");
        for (int v : Wrong.nodes(3)) {
            refusals.none("propose(" + v + ", 1, 0)", CallEdgesTest::still, s -> s.propose(v, 1, 0));
            refusals.none("propose(" + v + ", 4, 2)", CallEdgesTest::underWay, s -> s.propose(v, 4, 2));
        }
        answers.due("the first node", still().propose(0, 1, 0), 0);
        answers.due("the last node", still().propose(2, 1, 0), 0);
    }

    private static void proposeOfAnIllBehavedNode() {
        answers.about("Promise 5: Refused, NONE: v is ill-behaved");
        refusals.none("one that never moved", CallEdgesTest::stillWithALiar, s -> s.propose(2, 1, 0));
        refusals.none("one that has a counter", CallEdgesTest::underWay, s -> s.propose(2, 2, 0));
        answers.due("before it was corrupted", still().propose(2, 1, 0), 0);
    }

    private static void proposeCounterOutsideOneToFour() {
        answers.about("Promise 5: Refused, NONE: c is not 1 .. 4");
        for (int c : Wrong.outside(1, 4)) {
            refusals.none("propose(0, " + c + ", 0), not moved", CallEdgesTest::still, s -> s.propose(0, c, 0));
            refusals.none("propose(0, " + c + ", 0)", CallEdgesTest::underWay, s -> s.propose(0, c, 0));
        }
        for (int c = 1; c <= 4; c++) {
            answers.due("counter " + c, still().propose(0, c, 0), 0);
        }
        SliceVoting s = still();
        s.propose(0, 4, 0);
        answers.due("5 after 4", s.propose(0, 5, 0), NONE);
        answers.due("counter", s.counter(0), 4);
    }

    private static void proposeCounterNotGreater() {
        answers.about("Promise 5: Refused, NONE: c is not greater than its counter");
        for (int counter = 1; counter <= 4; counter++) {
            int has = counter;
            Supplier<SliceVoting> past = () -> {
                SliceVoting s = still();
                s.propose(0, has, 1);
                return s;
            };
            for (int c = 1; c <= 4; c++) {
                int asked = c;
                String name = "counter " + c + " after " + counter;
                if (c > counter) {
                    answers.due(name, past.get().propose(0, c, 0), 0);
                } else {
                    refusals.none(name, past, s -> s.propose(0, asked, 0));
                }
            }
            answers.due("another node has its own counter", past.get().propose(1, 1, 0), 0);
        }
    }

    private static void proposeValueOutsideZeroToTwo() {
        answers.about("Promise 5: Refused, NONE: x is not 0 .. 2");
        for (int x : Wrong.outside(0, 2)) {
            refusals.none("propose(0, 1, " + x + ")", CallEdgesTest::still, s -> s.propose(0, 1, x));
            refusals.none("propose(0, 2, " + x + "), though the value is settled", CallEdgesTest::decided,
                s -> s.propose(0, 2, x));
        }
        for (int x = 0; x <= 2; x++) {
            answers.due("value " + x, still().propose(0, 1, x), x);
            answers.due("value " + x + ", though the value is settled", decided().propose(0, 2, x), 1);
        }
    }

    // ---- promise 6

    private static void deliverAsTheyAreNow() {
        answers.about("Promise 6: which statements v has voted for and which it has accepted, as they are now");
        SliceVoting s = new SliceVoting(2);
        Networks.top(s, 0, 1, 1);
        s.propose(0, 1, 2);
        answers.due("deliver", s.deliver(0, 1), true);
        answers.due("votes", s.known(1, 0, false), prepare(1, 2) | commit(1, 2));
        answers.due("accepts", s.known(1, 0, true), prepare(1, 2) | commit(1, 2));
        s.propose(0, 2, 2);
        answers.due("votes that it has not heard yet", s.known(1, 0, false), prepare(1, 2) | commit(1, 2));
        answers.due("accepts that it has not heard yet", s.known(1, 0, true), prepare(1, 2) | commit(1, 2));
        answers.due("deliver", s.deliver(0, 1), true);
        int all = prepare(1, 2) | commit(1, 2) | prepare(2, 2) | commit(2, 2);
        answers.due("votes now", s.known(1, 0, false), all);
        answers.due("accepts now", s.known(1, 0, true), all);
    }

    private static void deliverTheSameAgain() {
        answers.about("Promise 6: and settles (also when it heard the same before)");
        SliceVoting s = underWay();
        String before = Answers.picture(s, 3);
        answers.due("the same again", s.deliver(0, 1), true);
        answers.same("hearing the same", s, 3, before);
        // Nothing heard is the same as the empty sets of a node that did nothing; the empty set blocks node 1.
        SliceVoting t = new SliceVoting(2);
        Networks.top(t, 1, 3, 3);
        answers.due("it has not settled yet", t.accepted(1), 0);
        answers.due("nothing, as before", t.deliver(0, 1), true);
        answers.due("it settled", t.accepted(1), 0xFFF | commit(4, 2));
        answers.due("the one that was heard did not", t.deliver(1, 0) ? t.accepted(0) : -1, 0);
    }

    private static void deliverFromNoNode() {
        answers.about("Promise 6: Refused, false: v is no node");
        for (int v : Wrong.nodes(3)) {
            refusals.no("deliver(" + v + ", 0)", CallEdgesTest::still, s -> s.deliver(v, 0));
            refusals.no("deliver(" + v + ", " + v + ")", CallEdgesTest::underWay, s -> s.deliver(v, v));
        }
        answers.due("the last node", still().deliver(2, 0), true);
    }

    private static void deliverToNoNode() {
        answers.about("Promise 6: Refused, false: w is no node");
        for (int w : Wrong.nodes(3)) {
            refusals.no("deliver(0, " + w + ")", CallEdgesTest::still, s -> s.deliver(0, w));
            refusals.no("deliver(1, " + w + ")", CallEdgesTest::underWay, s -> s.deliver(1, w));
        }
        answers.due("the last node", still().deliver(0, 2), true);
    }

    private static void deliverFromAnIllBehavedNode() {
        answers.about("Promise 6: Refused, false: v is ill-behaved");
        refusals.no("one that has nothing to say", CallEdgesTest::stillWithALiar, s -> s.deliver(2, 0));
        refusals.no("one that has voted", CallEdgesTest::underWay, s -> s.deliver(2, 0));
    }

    private static void deliverToAnIllBehavedNode() {
        answers.about("Promise 6: Refused, false: w is ill-behaved");
        refusals.no("from one that has nothing to say", CallEdgesTest::stillWithALiar, s -> s.deliver(0, 2));
        refusals.no("from one that has voted", CallEdgesTest::underWay, s -> s.deliver(0, 2));
        refusals.no("an ill-behaved node to itself", CallEdgesTest::underWay, s -> s.deliver(2, 2));
    }

    private static void deliverToItself() {
        answers.about("Promise 6: Refused, false: v is w");
        for (int v = 0; v < 3; v++) {
            int self = v;
            refusals.no("deliver(" + v + ", " + v + ")", CallEdgesTest::still, s -> s.deliver(self, self));
        }
        refusals.no("deliver(0, 0), moving", CallEdgesTest::underWay, s -> s.deliver(0, 0));
    }

    // ---- promise 7

    private static void sayLowest24Bits() {
        answers.about("Promise 7: of both numbers the lowest 24 bits count");
        int[] sets = {0, 1, 1 << 23, 1 << 24, 1 << 31, -1, ALL, ~ALL, Integer.MIN_VALUE, Integer.MAX_VALUE,
            0x01800001, 0x80FFFFFF, 0x7F000000, -2};
        for (int votes : sets) {
            for (int accepts : sets) {
                SliceVoting s = new SliceVoting(2);
                s.corrupt(0);
                answers.due("say(" + votes + ", " + accepts + ")", s.say(0, 1, votes, accepts), true);
                answers.due("votes of " + votes, s.known(1, 0, false), votes & ALL);
                answers.due("accepts of " + accepts, s.known(1, 0, true), accepts & ALL);
            }
        }
        SliceVoting s = Networks.puppet();
        s.say(0, 1, ~ALL, ~ALL);
        answers.due("higher bits are no statements", s.accepted(1), 0);
        s.say(0, 1, 0, 1 << 23);
        answers.due("bit 23 is COMMIT (4, 2)", s.accepted(1), commit(4, 2));
    }

    private static void sayInPlaceOfTheFormer() {
        answers.about("Promise 7: in place of what it heard from it before");
        SliceVoting s = Networks.allTrustAll(3, 3);
        s.propose(2, 2, 0);
        s.deliver(2, 0);
        s.corrupt(2);
        answers.due("what was delivered stays until then", s.known(0, 2, false), prepare(1, 0) | prepare(2, 0));
        s.say(2, 0, 6, 9);
        answers.due("votes in place of what was delivered", s.known(0, 2, false), 6);
        answers.due("accepts in place of what was delivered", s.known(0, 2, true), 9);
        s.say(2, 0, 8, 0);
        answers.due("votes in place of what was said", s.known(0, 2, false), 8);
        answers.due("accepts in place of what was said", s.known(0, 2, true), 0);
        s.say(2, 0, 0, 0);
        answers.due("nothing in place of votes", s.known(0, 2, false), 0);
        answers.due("another node heard nothing", s.known(1, 2, false), 0);
        // A vote that was taken back counts no more; one that comes in its place does.
        SliceVoting back = Networks.allTrustAll(3, 3);
        back.corrupt(1);
        back.corrupt(2);
        back.propose(0, 1, 0);
        back.say(1, 0, prepare(1, 0), 0);
        back.say(1, 0, 0, 0);
        back.say(2, 0, prepare(1, 0), 0);
        answers.due("a vote that was taken back", back.accepted(0), 0);
        back.say(1, 0, prepare(1, 0), 0);
        answers.due("a vote that was given again", back.accepted(0), prepare(1, 0));
    }

    private static void saySettles() {
        answers.about("Promise 7: and settles");
        SliceVoting s = Networks.puppet();
        answers.due("say", s.say(0, 1, 0, prepare(2, 1)), true);
        answers.due("accepted at once", s.accepted(1), prepare(2, 1));
        answers.due("confirmed at once", s.confirmed(1), prepare(2, 1));
        SliceVoting t = new SliceVoting(2);
        Networks.top(t, 1, 3, 3);
        t.corrupt(0);
        answers.due("say nothing", t.say(0, 1, 0, 0), true);
        answers.due("it settled all the same", t.accepted(1), 0xFFF | commit(4, 2));
    }

    private static void sayFromNoNode() {
        answers.about("Promise 7: Refused, false: v is no node");
        for (int v : Wrong.nodes(3)) {
            refusals.no("say(" + v + ", 0)", CallEdgesTest::stillWithALiar, s -> s.say(v, 0, -1, -1));
            refusals.no("say(" + v + ", 1)", CallEdgesTest::underWay, s -> s.say(v, 1, -1, -1));
        }
        answers.due("the ill-behaved node", stillWithALiar().say(2, 0, -1, -1), true);
    }

    private static void sayFromAWellBehavedNode() {
        answers.about("Promise 7: Refused, false: v is well-behaved");
        refusals.no("no node is ill-behaved", CallEdgesTest::still, s -> s.say(2, 0, -1, -1));
        refusals.no("another node is ill-behaved", CallEdgesTest::stillWithALiar, s -> s.say(1, 0, -1, -1));
        refusals.no("to itself", CallEdgesTest::stillWithALiar, s -> s.say(1, 1, -1, -1));
        refusals.no("while it moves", CallEdgesTest::underWay, s -> s.say(0, 1, -1, -1));
    }

    private static void sayToNoNode() {
        answers.about("Promise 7: Refused, false: w is no node");
        for (int w : Wrong.nodes(3)) {
            refusals.no("say(2, " + w + ")", CallEdgesTest::stillWithALiar, s -> s.say(2, w, -1, -1));
            refusals.no("say(2, " + w + "), moving", CallEdgesTest::underWay, s -> s.say(2, w, -1, -1));
        }
    }

    private static void sayToAnIllBehavedNode() {
        answers.about("Promise 7: Refused, false: w is ill-behaved");
        refusals.no("to itself", CallEdgesTest::underWay, s -> s.say(2, 2, -1, -1));
        refusals.no("to another one", () -> {
            SliceVoting s = underWay();
            s.corrupt(1);
            return s;
        }, s -> s.say(2, 1, -1, -1));
    }

    // ---- promises 8 to 14

    private static void votedOfNoNode() {
        answers.about("Promise 8: 0 when v is no node");
        SliceVoting s = decided();
        for (int v : Wrong.nodes(3)) {
            answers.due("voted(" + v + ")", s.voted(v), 0);
        }
        answers.due("voted(2)", s.voted(2), prepare(1, 1) | commit(1, 1));
    }

    private static void acceptedOfNoNode() {
        answers.about("Promise 9: 0 when v is no node");
        SliceVoting s = decided();
        for (int v : Wrong.nodes(3)) {
            answers.due("accepted(" + v + ")", s.accepted(v), 0);
        }
        answers.due("accepted(2)", s.accepted(2), prepare(1, 1) | commit(1, 1));
    }

    private static void confirmedOfNoNode() {
        answers.about("Promise 10: 0 when v is no node");
        SliceVoting s = decided();
        for (int v : Wrong.nodes(3)) {
            answers.due("confirmed(" + v + ")", s.confirmed(v), 0);
        }
        answers.due("confirmed(2)", s.confirmed(2), prepare(1, 1) | commit(1, 1));
    }

    private static void counterOfNoNode() {
        answers.about("Promise 11: 0 when v is no node");
        SliceVoting s = decided();
        for (int v : Wrong.nodes(3)) {
            answers.due("counter(" + v + ")", s.counter(v), 0);
        }
        answers.due("counter(2)", s.counter(2), 1);
    }

    private static void valueOfNoNode() {
        answers.about("Promise 12: 0 when v is no node");
        SliceVoting s = decided();
        for (int v : Wrong.nodes(3)) {
            answers.due("value(" + v + ")", s.value(v), 0);
        }
        answers.due("value(2)", s.value(2), 1);
    }

    private static void decidedOfNoNode() {
        answers.about("Promise 13: NONE when v is no node");
        SliceVoting s = decided();
        for (int v : Wrong.nodes(3)) {
            answers.due("decided(" + v + ")", s.decided(v), NONE);
        }
        answers.due("decided(2)", s.decided(2), 1);
    }

    private static void notDecided() {
        answers.about("Promise 13: NONE when it has not decided");
        answers.due("a new node", still().decided(0), NONE);
        SliceVoting voting = still();
        voting.propose(0, 1, 0);
        answers.due("a node that votes", voting.decided(0), NONE);
        SliceVoting accepting = onlyAccepting();
        accepting.say(1, 0, 0, commit(1, 0));
        answers.due("COMMIT is accepted", accepting.accepted(0), commit(1, 0));
        answers.due("COMMIT that is only accepted", accepting.decided(0), NONE);
        SliceVoting preparing = Networks.puppet();
        preparing.say(0, 1, 0, 0xFFF);
        answers.due("every PREPARE is confirmed", preparing.confirmed(1), 0xFFF);
        answers.due("PREPARE that is confirmed", preparing.decided(1), NONE);
        for (int x = 0; x <= 2; x++) {
            SliceVoting deciding = Networks.puppet();
            deciding.say(0, 1, 0, commit(1, x));
            answers.due("COMMIT that is confirmed", deciding.decided(1), x);
            answers.due("the ill-behaved node decided nothing by what it said", deciding.decided(0), NONE);
        }
    }

    private static void knownOfNoNode() {
        answers.about("Promise 14: 0 when w is no node");
        SliceVoting s = decided();
        for (int w : Wrong.nodes(3)) {
            answers.due("known(1, " + w + ", false)", s.known(1, w, false), 0);
            answers.due("known(1, " + w + ", true)", s.known(1, w, true), 0);
        }
        answers.due("known(1, 2, false)", s.known(1, 2, false), prepare(1, 1) | commit(1, 1));
        answers.due("known(1, 2, true)", s.known(1, 2, true), prepare(1, 1) | commit(1, 1));
    }

    private static void knownByNoNode() {
        answers.about("Promise 14: 0 when v is no node");
        SliceVoting s = decided();
        for (int v : Wrong.nodes(3)) {
            answers.due("known(" + v + ", 1, false)", s.known(v, 1, false), 0);
            answers.due("known(" + v + ", 1, true)", s.known(v, 1, true), 0);
            answers.due("known(" + v + ", " + v + ", false)", s.known(v, v, false), 0);
            answers.due("known(" + v + ", " + v + ", true)", s.known(v, v, true), 0);
        }
        answers.due("known(2, 1, false)", s.known(2, 1, false), prepare(1, 1) | commit(1, 1));
    }

    private static void knownOfItself() {
        answers.about("Promise 14: What node v knows of node w (which may be v)");
        SliceVoting s = new SliceVoting(2);
        Networks.top(s, 0, 2, 3);
        Networks.top(s, 1, 2, 3);
        knowsItself("new", s);
        s.propose(0, 2, 1);
        knowsItself("after propose", s);
        answers.due("its own votes", s.known(0, 0, false), prepare(1, 1) | prepare(2, 1));
        s.propose(1, 1, 1);
        s.deliver(0, 1);
        knowsItself("after deliver", s);
        answers.due("what it accepted", s.known(1, 1, true), prepare(1, 1));
        s.corrupt(0);
        s.say(0, 1, 0, prepare(2, 1));
        knowsItself("after say", s);
        answers.due("the ill-behaved node knows what it had", s.known(0, 0, false), prepare(1, 1) | prepare(2, 1));
    }

    private static void knowsItself(String when, SliceVoting s) {
        for (int v = 0; v < 2; v++) {
            answers.due(when + ": votes of " + v, s.known(v, v, false), s.voted(v));
            answers.due(when + ": accepts of " + v, s.known(v, v, true), s.accepted(v));
        }
    }

    private static void knownBeforeAnythingWasHeard() {
        answers.about("Terms: (empty before it heard anything)");
        SliceVoting s = Networks.allTrustAll(3, 1);
        s.propose(0, 4, 2);
        for (int v = 1; v < 3; v++) {
            answers.due("known(" + v + ", 0, false)", s.known(v, 0, false), 0);
            answers.due("known(" + v + ", 0, true)", s.known(v, 0, true), 0);
        }
        s.deliver(0, 1);
        answers.due("node 1 has heard", s.known(1, 0, false), s.voted(0));
        answers.due("node 2 has not", s.known(2, 0, false), 0);
        answers.due("nor has node 0", s.known(0, 1, false), 0);
    }

    private static void theLastCallThatAnObjectIsGoodFor() {
        answers.about("What it is: An object is used for at most 512 calls after it has been made");
        SliceVoting s = Networks.allTrustAll(2, 2);
        int calls = 6;
        for (; calls < 508; calls++) {
            answers.due("deliver, call " + (calls + 1), s.deliver(calls % 2, 1 - calls % 2), true);
        }
        answers.due("call 509", s.propose(0, 4, 2), 2);
        answers.due("call 510", s.propose(1, 4, 2), 2);
        answers.due("call 511", s.deliver(0, 1), true);
        answers.due("call 512", s.accepted(1), prepare(1, 2) | prepare(2, 2) | prepare(3, 2) | prepare(4, 2));
        SliceVoting builds = new SliceVoting(6);
        for (int i = 0; i < 488; i++) {
            answers.due("refused quota, call " + (i + 1), builds.quota(6, NONE, 1), NONE);
        }
        for (int i = 0; i < 24; i++) {
            answers.due("quota, call " + (489 + i), builds.quota(i % 6, i < 6 ? NONE : i % 6, 1), i);
        }
    }
}
