import java.util.function.Supplier;

/** Promises 1 to 4, and the terms that they use: each sentence that names a boundary case. */
final class BuildingEdgesTest {
    private static final int NONE = SliceVoting.NONE;
    private static final Answers answers = new Answers();
    private static final Refusals refusals = new Refusals(answers);

    public static void main(String[] args) {
        fewestAndMostNodes();
        oneNodeWhenBelowOne();
        sixNodesWhenAboveSix();
        newNodesAreWellBehaved();
        newNodesHaveNoQuotas();

        quotaNumbersGoOverAllNodes();
        quotaStartsWithoutMembers();
        quotaWhenTheNetworkMoves();
        quotaOfNoNode();
        quotaBeyondFour();
        quotaNumberOutsideOneToNine();
        quotaSecondTop();
        quotaParentIsNoQuota();
        quotaParentOfAnotherNode();
        quotaParentOfLevelThree();
        quotaLevelComesFromItsParent();
        quotaOfAnIllBehavedNode();

        memberAnyNode();
        memberWhenTheNetworkMoves();
        memberOfNoQuota();
        memberNoNode();
        memberAlready();

        corruptAnyNode();
        corruptNoNode();
        corruptAlready();
        corruptDoesNotMoveTheNetwork();
        askingDoesNotMoveTheNetwork();
        refusedCallsDoNotMoveTheNetwork();
        theFirstCallThatIsNotRefusedMovesIt();
        answers.end();
    }

    // ---- pasts

    /** Three nodes, each with the top quota 2 of all three: quotas 0, 1, 2. */
    private static SliceVoting tops() {
        return Networks.allTrustAll(3, 2);
    }

    /** Node 0 has the top quota 0 with the members 0 and 1; nodes 1 and 2 have none. */
    private static SliceVoting oneTop() {
        SliceVoting s = new SliceVoting(3);
        Networks.top(s, 0, 2, 3);
        return s;
    }

    private static SliceVoting movedByPropose() {
        SliceVoting s = oneTop();
        s.propose(1, 1, 0);
        return s;
    }

    private static SliceVoting movedByDeliver() {
        SliceVoting s = oneTop();
        s.deliver(1, 2);
        return s;
    }

    private static SliceVoting movedBySay() {
        SliceVoting s = oneTop();
        s.corrupt(1);
        s.say(1, 2, 0, 0);
        return s;
    }

    // ---- promise 1

    private static void countsNodes(int given, int n) {
        SliceVoting s = new SliceVoting(given);
        String name = "new " + given + ": ";
        for (int v = 0; v < n; v++) {
            answers.due(name + "quota of " + v, s.quota(v, NONE, 1), v);
            answers.due(name + v + " as a member of its own quota", s.member(v, v), true);
            answers.due(name + "corrupt " + v, s.corrupt(v), true);
        }
        answers.due(name + "all of them are a quorum", s.quorum((1 << n) - 1), true);
        answers.due(name + "one more is no set of nodes", s.largest((1 << n + 1) - 1), NONE);
        answers.due(name + "one more has no quota", s.quota(n, NONE, 1), NONE);
        answers.due(name + "one more is no member", s.member(0, n), false);
        answers.due(name + "one more can not be corrupted", s.corrupt(n), false);
    }

    private static void fewestAndMostNodes() {
        answers.about("Terms: NODES are numbered 0 .. n - 1, at most 6");
        for (int n = 1; n <= 6; n++) {
            countsNodes(n, n);
        }
    }

    private static void oneNodeWhenBelowOne() {
        answers.about("Promise 1: one when nodes is below 1");
        for (int given : new int[] {0, -1, -2, -6, -31, -32, Integer.MIN_VALUE, Integer.MIN_VALUE + 1}) {
            countsNodes(given, 1);
        }
    }

    private static void sixNodesWhenAboveSix() {
        answers.about("Promise 1: six when it is above 6");
        for (int given : new int[] {7, 8, 31, 32, 33, 64, 256, 1 << 30, Integer.MAX_VALUE - 1, Integer.MAX_VALUE}) {
            countsNodes(given, 6);
        }
    }

    private static void newNodesAreWellBehaved() {
        answers.about("Promise 1: all well-behaved");
        SliceVoting s = new SliceVoting(6);
        for (int v = 0; v < 6; v++) {
            answers.due("intertwined(" + v + ", " + v + ")", s.intertwined(v, v), true);
            answers.due("say from " + v, s.say(v, (v + 1) % 6, 1, 1), false);
            answers.due("deliver from " + v, s.deliver(v, (v + 1) % 6), true);
        }
    }

    private static void newNodesHaveNoQuotas() {
        answers.about("Promise 1: without quotas");
        SliceVoting s = new SliceVoting(6);
        answers.due("member(0, 0)", s.member(0, 0), false);
        for (int v = 0; v < 6; v++) {
            answers.due("a parent for " + v, s.quota(v, 0, 1), NONE);
            answers.due("blocks(63, " + v + ")", s.blocks(63, v), false);
            answers.due("quorum of " + v, s.quorum(1 << v), false);
        }
        answers.due("largest(63)", s.largest(63), 0);
        answers.due("the first quota", s.quota(5, NONE, 1), 0);
    }

    // ---- promise 2

    private static void quotaNumbersGoOverAllNodes() {
        answers.about("Terms: Quotas are numbered 0, 1, .. as they are added, over all nodes");
        SliceVoting s = new SliceVoting(6);
        for (int v = 5; v >= 0; v--) {
            answers.due("top of " + v, s.quota(v, NONE, 9), 5 - v);
        }
        for (int i = 6; i < 24; i++) {
            int v = i % 6;
            answers.due("inner of " + v, s.quota(v, 5 - v, 1), i);
        }
        answers.due("the last one is there", s.member(23, 0), true);
        answers.due("one more is not", s.member(24, 0), false);
    }

    private static void quotaStartsWithoutMembers() {
        answers.about("Promise 2: Adds a quota with the number k and without members");
        SliceVoting s = new SliceVoting(2);
        s.quota(0, NONE, 1);
        answers.due("blocks(0, 0)", s.blocks(0, 0), true);
        answers.due("quorum(1)", s.quorum(1), false);
        answers.due("inner", s.quota(0, 0, 1), 1);
        answers.due("an inner quota that is not met counts nothing", s.blocks(0, 0), true);
        answers.due("a member of the inner one", s.member(1, 1), true);
        answers.due("blocks(0, 0) now", s.blocks(0, 0), false);
        answers.due("blocks(2, 0) now", s.blocks(2, 0), true);
    }

    private static void quotaWhenTheNetworkMoves() {
        answers.about("Promise 2: Refused, NONE: the network moves");
        answers.due("before it moves, top", oneTop().quota(2, NONE, 1), 1);
        answers.due("before it moves, inner", oneTop().quota(0, 0, 1), 1);
        quotaIsRefused("propose", BuildingEdgesTest::movedByPropose);
        quotaIsRefused("deliver", BuildingEdgesTest::movedByDeliver);
        quotaIsRefused("say", BuildingEdgesTest::movedBySay);
    }

    private static void quotaIsRefused(String by, Supplier<SliceVoting> past) {
        refusals.none("top after " + by, past, s -> s.quota(2, NONE, 1));
        refusals.none("inner after " + by, past, s -> s.quota(0, 0, 1));
    }

    private static void quotaOfNoNode() {
        answers.about("Promise 2: Refused, NONE: v is no node");
        for (int v : Wrong.nodes(3)) {
            refusals.none("quota(" + v + ", NONE, 1)", BuildingEdgesTest::oneTop, s -> s.quota(v, NONE, 1));
            refusals.none("quota(" + v + ", 0, 1)", BuildingEdgesTest::oneTop, s -> s.quota(v, 0, 1));
        }
        answers.due("the last node", oneTop().quota(2, NONE, 1), 1);
    }

    private static void quotaBeyondFour() {
        answers.about("Promise 2: Refused, NONE: v has 4 quotas");
        Supplier<SliceVoting> wide = () -> {
            SliceVoting s = oneTop();
            for (int i = 1; i <= 3; i++) {
                answers.due("quota " + (i + 1) + " of four", s.quota(0, 0, 1), i);
            }
            return s;
        };
        refusals.none("a fifth of level 2", wide, s -> s.quota(0, 0, 1));
        refusals.none("a fifth of level 3", wide, s -> s.quota(0, 3, 1));
        Supplier<SliceVoting> deep = () -> {
            SliceVoting s = oneTop();
            answers.due("level 2", s.quota(0, 0, 1), 1);
            answers.due("level 3", s.quota(0, 1, 1), 2);
            answers.due("level 3 again", s.quota(0, 1, 1), 3);
            return s;
        };
        refusals.none("a fifth, inner to the top", deep, s -> s.quota(0, 0, 1));
        refusals.none("a fifth, inner to level 2", deep, s -> s.quota(0, 1, 1));
        answers.due("another node has none yet", wide.get().quota(1, NONE, 1), 4);
    }

    private static void quotaNumberOutsideOneToNine() {
        answers.about("Promise 2: Refused, NONE: k is not 1 .. 9");
        for (int k : Wrong.outside(1, 9)) {
            refusals.none("top with the number " + k, BuildingEdgesTest::oneTop, s -> s.quota(1, NONE, k));
            refusals.none("inner with the number " + k, BuildingEdgesTest::oneTop, s -> s.quota(0, 0, k));
        }
        for (int k = 1; k <= 9; k++) {
            answers.due("top with the number " + k, oneTop().quota(1, NONE, k), 1);
            answers.due("inner with the number " + k, oneTop().quota(0, 0, k), 1);
        }
    }

    private static void quotaSecondTop() {
        answers.about("Promise 2: Refused, NONE: parent is NONE and v has a top quota");
        refusals.none("a second top of node 0", BuildingEdgesTest::oneTop, s -> s.quota(0, NONE, 1));
        refusals.none("a second top of node 2", BuildingEdgesTest::tops, s -> s.quota(2, NONE, 2));
        answers.due("the first top of node 1", oneTop().quota(1, NONE, 1), 1);
    }

    private static void quotaParentIsNoQuota() {
        answers.about("Promise 2: Refused, NONE: parent is neither NONE nor a quota");
        for (int parent : Wrong.outside(0, 2)) {
            if (parent != NONE) {
                refusals.none("parent " + parent, BuildingEdgesTest::tops, s -> s.quota(0, parent, 1));
                refusals.none("parent " + parent + " in an empty network", () -> new SliceVoting(3),
                    s -> s.quota(0, parent, 1));
            }
        }
        for (int parent = 0; parent < 3; parent++) {
            int absent = parent;
            refusals.none("parent " + parent + " in an empty network", () -> new SliceVoting(3),
                s -> s.quota(0, absent, 1));
        }
        answers.due("the last quota of all", tops().quota(2, 2, 1), 3);
    }

    private static void quotaParentOfAnotherNode() {
        answers.about("Promise 2: Refused, NONE: parent is .. nor a quota of v");
        refusals.none("the top of node 1", BuildingEdgesTest::tops, s -> s.quota(0, 1, 1));
        refusals.none("the top of node 0", BuildingEdgesTest::tops, s -> s.quota(2, 0, 1));
        refusals.none("the top of node 0, for a node without a top", BuildingEdgesTest::oneTop, s -> s.quota(2, 0, 1));
        Supplier<SliceVoting> inner = () -> {
            SliceVoting s = tops();
            s.quota(1, 1, 1);
            return s;
        };
        refusals.none("an inner quota of node 1", inner, s -> s.quota(0, 3, 1));
        answers.due("its own inner quota", inner.get().quota(1, 3, 1), 4);
    }

    private static void quotaParentOfLevelThree() {
        answers.about("Promise 2: Refused, NONE: parent is of level 3");
        Supplier<SliceVoting> chain = () -> {
            SliceVoting s = oneTop();
            s.quota(0, 0, 1);
            s.quota(0, 1, 1);
            return s;
        };
        refusals.none("level 4", chain, s -> s.quota(0, 2, 1));
        answers.due("inner to level 2", chain.get().quota(0, 1, 1), 3);
        answers.due("inner to level 1", chain.get().quota(0, 0, 1), 3);
        SliceVoting s = new SliceVoting(1);
        s.quota(0, NONE, 1);
        s.quota(0, 0, 1);
        s.quota(0, 1, 1);
        answers.due("not met", s.quorum(1), false);
        s.member(2, 0);
        answers.due("a member of level 3 meets the top quota", s.quorum(1), true);
    }

    private static void quotaLevelComesFromItsParent() {
        answers.about("Terms: the top quota is of level 1, an inner one of a level one more than the quota to which it is inner");
        SliceVoting s = oneTop();
        answers.due("level 2", s.quota(0, 0, 1), 1);
        answers.due("level 2 again", s.quota(0, 0, 1), 2);
        answers.due("level 3, the fourth quota", s.quota(0, 2, 1), 3);
        SliceVoting t = oneTop();
        answers.due("level 2", t.quota(0, 0, 1), 1);
        answers.due("level 3", t.quota(0, 1, 1), 2);
        answers.due("of another node, level 1", t.quota(1, NONE, 1), 3);
        answers.due("of another node, level 2", t.quota(1, 3, 1), 4);
        answers.due("of another node, level 3", t.quota(1, 4, 1), 5);
        answers.due("of another node, level 4", t.quota(1, 5, 1), NONE);
        answers.due("level 2 after level 3", t.quota(0, 0, 1), 6);
    }

    private static void quotaOfAnIllBehavedNode() {
        answers.about("Promise 2: (no reason to refuse) v is ill-behaved");
        SliceVoting s = new SliceVoting(3);
        s.corrupt(0);
        answers.due("top", s.quota(0, NONE, 1), 0);
        answers.due("inner", s.quota(0, 0, 1), 1);
        answers.due("member", s.member(0, 0), true);
        answers.due("an ill-behaved node alone may be a quorum", s.quorum(1), true);
    }

    // ---- promise 3

    private static void memberAnyNode() {
        answers.about("Promise 3: Node w (any node, the owner of the quota, too) becomes a member");
        for (int w = 0; w < 6; w++) {
            SliceVoting s = new SliceVoting(6);
            s.quota(3, NONE, 1);
            answers.due("member(0, " + w + ")", s.member(0, w), true);
            for (int set = 0; set < 64; set++) {
                answers.due("blocks(" + set + ", 3)", s.blocks(set, 3), (set >> w & 1) != 0);
            }
        }
        SliceVoting ill = oneTop();
        ill.corrupt(2);
        answers.due("an ill-behaved node", ill.member(0, 2), true);
        answers.due("it counts", ill.blocks(1, 0), false);
    }

    private static void memberWhenTheNetworkMoves() {
        answers.about("Promise 3: Refused, false: the network moves");
        answers.due("before it moves", oneTop().member(0, 2), true);
        refusals.no("member after propose", BuildingEdgesTest::movedByPropose, s -> s.member(0, 2));
        refusals.no("member after deliver", BuildingEdgesTest::movedByDeliver, s -> s.member(0, 2));
        refusals.no("member after say", BuildingEdgesTest::movedBySay, s -> s.member(0, 2));
    }

    private static void memberOfNoQuota() {
        answers.about("Promise 3: Refused, false: q is no quota");
        for (int q : Wrong.outside(0, 2)) {
            refusals.no("member(" + q + ", 0)", BuildingEdgesTest::tops, s -> s.member(q, 0));
            refusals.no("member(" + q + ", 0), no quotas", () -> new SliceVoting(3), s -> s.member(q, 0));
        }
        refusals.no("member(0, 0), no quotas", () -> new SliceVoting(3), s -> s.member(0, 0));
        refusals.no("member(1, 2), one quota", BuildingEdgesTest::oneTop, s -> s.member(1, 2));
    }

    private static void memberNoNode() {
        answers.about("Promise 3: Refused, false: w is no node");
        for (int w : Wrong.nodes(3)) {
            refusals.no("member(0, " + w + ")", BuildingEdgesTest::oneTop, s -> s.member(0, w));
        }
    }

    private static void memberAlready() {
        answers.about("Promise 3: Refused, false: w is a member of q already");
        refusals.no("the owner again", BuildingEdgesTest::oneTop, s -> s.member(0, 0));
        refusals.no("another again", BuildingEdgesTest::oneTop, s -> s.member(0, 1));
        SliceVoting s = oneTop();
        s.quota(0, 0, 1);
        answers.due("the same node in another quota", s.member(1, 1), true);
        answers.due("and there again", s.member(1, 1), false);
    }

    // ---- promise 4

    private static void corruptAnyNode() {
        answers.about("Promise 4: Node v becomes ill-behaved. Answers true");
        for (int v = 0; v < 6; v++) {
            SliceVoting s = new SliceVoting(6);
            answers.due("corrupt(" + v + ")", s.corrupt(v), true);
            for (int w = 0; w < 6; w++) {
                answers.due("intertwined(" + w + ", " + w + ")", s.intertwined(w, w), w != v);
            }
            answers.due("propose", s.propose(v, 1, 0), NONE);
            answers.due("say", s.say(v, (v + 1) % 6, 1, 0), true);
        }
        SliceVoting late = tops();
        late.propose(0, 1, 1);
        answers.due("while the network moves", late.corrupt(0), true);
        SliceVoting all = new SliceVoting(2);
        answers.due("the first of all", all.corrupt(0), true);
        answers.due("the last of all", all.corrupt(1), true);
        answers.due("nobody hears", all.say(0, 1, 1, 1), false);
    }

    private static void corruptNoNode() {
        answers.about("Promise 4: Refused, false: v is no node");
        for (int v : Wrong.nodes(3)) {
            refusals.no("corrupt(" + v + ")", BuildingEdgesTest::oneTop, s -> s.corrupt(v));
            refusals.no("corrupt(" + v + "), moving", BuildingEdgesTest::movedByPropose, s -> s.corrupt(v));
        }
    }

    private static void corruptAlready() {
        answers.about("Promise 4: Refused, false: v is ill-behaved already");
        for (int v = 0; v < 3; v++) {
            int ill = v;
            refusals.no("corrupt(" + v + ") again", () -> {
                SliceVoting s = oneTop();
                s.corrupt(ill);
                return s;
            }, s -> s.corrupt(ill));
        }
    }

    private static void corruptDoesNotMoveTheNetwork() {
        answers.about("Promise 4: The network does not move by that");
        SliceVoting s = oneTop();
        s.corrupt(0);
        s.corrupt(1);
        s.corrupt(2);
        s.corrupt(2);
        answers.due("quota", s.quota(1, NONE, 1), 1);
        answers.due("inner quota", s.quota(0, 0, 1), 2);
        answers.due("member", s.member(0, 2), true);
    }

    private static void askingDoesNotMoveTheNetwork() {
        answers.about("Terms: it moves from the first call of propose, deliver or say on (asking is none)");
        SliceVoting s = oneTop();
        Answers.picture(s, 3);
        answers.due("quota", s.quota(1, NONE, 1), 1);
        answers.due("member", s.member(0, 2), true);
    }

    private static void refusedCallsDoNotMoveTheNetwork() {
        answers.about("Terms: it moves from the first call .. that is not refused");
        SliceVoting s = oneTop();
        s.corrupt(2);
        answers.due("no node proposes", s.propose(3, 1, 0), NONE);
        answers.due("an ill-behaved one proposes", s.propose(2, 1, 0), NONE);
        answers.due("counter 0", s.propose(0, 0, 0), NONE);
        answers.due("counter 5", s.propose(0, 5, 0), NONE);
        answers.due("value -1", s.propose(0, 1, -1), NONE);
        answers.due("value 3", s.propose(0, 1, 3), NONE);
        answers.due("to itself", s.deliver(0, 0), false);
        answers.due("from no node", s.deliver(-1, 0), false);
        answers.due("to no node", s.deliver(0, 3), false);
        answers.due("deliver from an ill-behaved one", s.deliver(2, 0), false);
        answers.due("deliver to an ill-behaved one", s.deliver(0, 2), false);
        answers.due("say from no node", s.say(3, 0, 1, 1), false);
        answers.due("say from a well-behaved one", s.say(0, 1, 1, 1), false);
        answers.due("say to no node", s.say(2, 3, 1, 1), false);
        answers.due("say to an ill-behaved one", s.say(2, 2, 1, 1), false);
        answers.due("quota", s.quota(1, NONE, 1), 1);
        answers.due("member", s.member(0, 2), true);
        answers.due("counters are as before", s.propose(0, 1, 0), 0);
        answers.due("quota after a call that is not refused", s.quota(2, NONE, 1), NONE);
    }

    private static void theFirstCallThatIsNotRefusedMovesIt() {
        answers.about("Terms: Quotas can be changed only before the network MOVES");
        answers.due("propose", movedByPropose().quota(1, NONE, 1), NONE);
        answers.due("deliver of nothing", movedByDeliver().quota(1, NONE, 1), NONE);
        answers.due("say of nothing", movedBySay().quota(1, NONE, 1), NONE);
        SliceVoting s = movedByPropose();
        s.propose(1, 1, 0);
        s.corrupt(1);
        answers.due("once it moves it goes on to move", s.member(0, 2), false);
    }
}
