/** Promises 15 to 18, and the terms that they use: each sentence that names a boundary case. */
final class QuorumEdgesTest {
    private static final int NONE = SliceVoting.NONE;
    private static final Answers answers = new Answers();

    public static void main(String[] args) {
        atLeastK();
        membersAndInnerQuotasTogether();
        leastAndGreatestK();
        innerQuotasOfLevelTwoAndThree();
        aSetOfNodesHasBitsFromZeroOn();

        quorumIsNotEmpty();
        quorumMeetsEveryTopQuota();
        quorumWithoutTopQuota();
        quorumBeyondTheNodes();

        largestIsTheUnion();
        largestWhenThereIsNone();
        largestOfTheEmptySet();
        largestBeyondTheNodes();

        blocksNeedsATopQuota();
        blocksByTheEmptySet();
        blocksWithAndWithoutItself();
        blocksByAll();
        blocksNoNode();
        blocksBeyondTheNodes();

        intertwinedWithItself();
        intertwinedInNoQuorum();
        intertwinedNoNode();
        intertwinedIllBehaved();
        intertwinedByIllBehavedNodesOnly();
        intertwinedEveryPairOfQuorums();
        corruptionChangesNoQuorum();
        answers.end();
    }

    // ---- quotas

    private static void atLeastK() {
        answers.about("Terms: make together at least K");
        for (int k = 1; k <= 6; k++) {
            SliceVoting s = new SliceVoting(6);
            Networks.top(s, 0, k, 63);
            answers.due("one less than " + k, s.blocks(63 & ~((1 << k - 1) - 1), 0), true);
            answers.due("just " + k, s.blocks(63 & ~((1 << k) - 1), 0), false);
            answers.due("all six", s.blocks(0, 0), false);
        }
    }

    private static void membersAndInnerQuotasTogether() {
        answers.about("Terms: the number of its members that are in the set and the number of its inner quotas that the set meets");
        SliceVoting s = new SliceVoting(4);
        int top = Networks.top(s, 0, 3, 3);
        Networks.inner(s, 0, top, 1, 12);
        answers.due("two members and one inner quota", s.blocks(8, 0), false);
        answers.due("an inner quota that is met twice over counts once", s.blocks(1, 0), true);
        answers.due("two members alone", s.blocks(12, 0), true);
        Networks.inner(s, 0, top, 2, 12);
        answers.due("one member and two inner quotas", s.blocks(1, 0), false);
        answers.due("one member and one inner quota", s.blocks(9, 0), true);
        // A node that is a member of the quota and of an inner one counts in both.
        SliceVoting twice = new SliceVoting(1);
        int q = Networks.top(twice, 0, 2, 1);
        answers.due("one member", twice.quorum(1), false);
        Networks.inner(twice, 0, q, 1, 1);
        answers.due("one member and an inner quota of the same", twice.quorum(1), true);
    }

    private static void leastAndGreatestK() {
        answers.about("Terms: it has a number K from 1 to 9");
        SliceVoting one = new SliceVoting(6);
        Networks.top(one, 5, 1, 63);
        for (int set = 0; set < 63; set++) {
            answers.due("K 1, blocks(" + set + ", 5)", one.blocks(set, 5), false);
        }
        answers.due("K 1, nobody is left", one.blocks(63, 5), true);
        // Six members and three inner quotas are the most that a set can meet.
        SliceVoting nine = new SliceVoting(6);
        int top = Networks.top(nine, 5, 9, 63);
        Networks.inner(nine, 5, top, 1, 1);
        Networks.inner(nine, 5, top, 1, 1);
        answers.due("K 9, eight are met", nine.blocks(0, 5), true);
        Networks.inner(nine, 5, top, 6, 63);
        answers.due("K 9, nine are met", nine.blocks(0, 5), false);
        for (int set = 1; set < 64; set++) {
            answers.due("K 9, blocks(" + set + ", 5)", nine.blocks(set, 5), true);
        }
    }

    private static void innerQuotasOfLevelTwoAndThree() {
        answers.about("Terms: an inner one of a level one more than the quota to which it is inner, at most 3");
        SliceVoting s = new SliceVoting(3);
        int top = Networks.top(s, 0, 2, 1);
        int second = Networks.inner(s, 0, top, 2, 2);
        Networks.inner(s, 0, second, 1, 4);
        for (int set = 0; set < 8; set++) {
            answers.due("all three are needed, blocks(" + set + ", 0)", s.blocks(set, 0), set != 0);
        }
        // Two inner quotas of level 3 in one of level 2.
        SliceVoting t = new SliceVoting(3);
        top = Networks.top(t, 0, 1, 0);
        second = Networks.inner(t, 0, top, 2, 0);
        Networks.inner(t, 0, second, 1, 2);
        Networks.inner(t, 0, second, 1, 4);
        for (int set = 0; set < 8; set++) {
            answers.due("nodes 1 and 2 are needed, blocks(" + set + ", 0)", t.blocks(set, 0), (set & 6) != 0);
        }
    }

    private static void aSetOfNodesHasBitsFromZeroOn() {
        answers.about("Terms: a set of nodes is written as an int with bit v (worth 2 to the power of v) for node v");
        for (int v = 0; v < 6; v++) {
            SliceVoting s = new SliceVoting(6);
            Networks.top(s, v, 1, 1 << v);
            for (int set = 0; set < 64; set++) {
                answers.due("quorum(" + set + ")", s.quorum(set), set == 1 << v);
                answers.due("largest(" + set + ")", s.largest(set), set & 1 << v);
            }
        }
    }

    // ---- promise 15

    private static void quorumIsNotEmpty() {
        answers.about("Terms: A QUORUM is a set of nodes, not empty");
        answers.due("a new object", new SliceVoting(6).quorum(0), false);
        answers.due("where every other set is one", Networks.allTrustAll(6, 1).quorum(0), false);
        answers.due("one node is enough", Networks.allTrustAll(6, 1).quorum(32), true);
        answers.due("where no other set is one", Networks.allTrustAll(6, 9).quorum(0), false);
    }

    private static void quorumMeetsEveryTopQuota() {
        answers.about("Terms: that meets the top quota of every node in it");
        SliceVoting s = new SliceVoting(3);
        Networks.top(s, 0, 1, 1);
        Networks.top(s, 1, 2, 5);
        Networks.top(s, 2, 1, 4);
        answers.due("node 0 alone", s.quorum(1), true);
        answers.due("node 1 needs node 2", s.quorum(3), false);
        answers.due("node 1 needs node 0", s.quorum(6), false);
        answers.due("node 1 has both", s.quorum(7), true);
        answers.due("node 1 alone", s.quorum(2), false);
        answers.due("two that are enough for themselves", s.quorum(5), true);
    }

    private static void quorumWithoutTopQuota() {
        answers.about("Terms: (a node without a top quota is in no quorum)");
        SliceVoting s = new SliceVoting(2);
        Networks.top(s, 0, 1, 3);
        answers.due("node 0 alone", s.quorum(1), true);
        answers.due("node 1 alone", s.quorum(2), false);
        answers.due("both", s.quorum(3), false);
        answers.due("it is left out of the union", s.largest(3), 1);
        answers.due("it may be met all the same: blocks(1, 0)", s.blocks(1, 0), false);
    }

    private static void quorumBeyondTheNodes() {
        answers.about("Promise 15: false also when it has a bit for which there is no node");
        for (int n = 1; n <= 6; n++) {
            SliceVoting s = Networks.allTrustAll(n, 1);
            for (int set : Wrong.sets(n)) {
                answers.due(n + " nodes, quorum(" + set + ")", s.quorum(set), false);
            }
            answers.due(n + " nodes, all of them", s.quorum((1 << n) - 1), true);
        }
    }

    // ---- promise 16

    private static void largestIsTheUnion() {
        answers.about("Promise 16: The union of all quorums that are part of the set of nodes");
        SliceVoting s = new SliceVoting(6);
        Networks.top(s, 0, 2, 3);
        Networks.top(s, 1, 2, 3);
        Networks.top(s, 2, 1, 4);
        Networks.top(s, 3, 2, 12);
        Networks.top(s, 4, 3, 28);
        answers.due("all", s.largest(63), 31);
        answers.due("two apart", s.largest(7), 7);
        answers.due("one that is not whole", s.largest(6), 4);
        answers.due("one falls, and then those that need it", s.largest(56), 0);
        answers.due("the set itself", s.largest(28), 28);
        answers.due("not more than the set", s.largest(12), 12);
        for (int set = 0; set < 64; set++) {
            int union = s.largest(set);
            answers.due("part of the set " + set, union & ~set, 0);
            answers.due("a quorum in " + set, union == 0 || s.quorum(union), true);
        }
    }

    private static void largestWhenThereIsNone() {
        answers.about("Promise 16: 0 when there is none");
        SliceVoting bare = new SliceVoting(6);
        SliceVoting never = Networks.allTrustAll(6, 9);
        SliceVoting most = Networks.allTrustAll(6, 6);
        for (int set = 0; set < 63; set++) {
            answers.due("without quotas, largest(" + set + ")", bare.largest(set), 0);
            answers.due("with a quota that is never met, largest(" + set + ")", never.largest(set), 0);
            answers.due("with a quota of all, largest(" + set + ")", most.largest(set), 0);
        }
        answers.due("without quotas, all", bare.largest(63), 0);
        answers.due("with a quota that is never met, all", never.largest(63), 0);
        answers.due("with a quota of all, all", most.largest(63), 63);
    }

    private static void largestOfTheEmptySet() {
        answers.about("Promise 16: 0 when there is none (the empty set)");
        for (int n = 1; n <= 6; n++) {
            answers.due(n + " nodes", Networks.allTrustAll(n, 1).largest(0), 0);
            answers.due(n + " nodes without quotas", new SliceVoting(n).largest(0), 0);
        }
    }

    private static void largestBeyondTheNodes() {
        answers.about("Promise 16: NONE when the set has a bit for which there is no node");
        for (int n = 1; n <= 6; n++) {
            SliceVoting s = Networks.allTrustAll(n, 1);
            SliceVoting bare = new SliceVoting(n);
            for (int set : Wrong.sets(n)) {
                answers.due(n + " nodes, largest(" + set + ")", s.largest(set), NONE);
                answers.due(n + " nodes without quotas, largest(" + set + ")", bare.largest(set), NONE);
            }
            answers.due(n + " nodes, all of them", s.largest((1 << n) - 1), (1 << n) - 1);
        }
    }

    // ---- promise 17

    private static void blocksNeedsATopQuota() {
        answers.about("Terms: A set of nodes BLOCKS node v when v has a top quota");
        SliceVoting s = new SliceVoting(6);
        Networks.top(s, 0, 9, 63);
        for (int set = 0; set < 64; set++) {
            answers.due("no top quota, blocks(" + set + ", 1)", s.blocks(set, 1), false);
            answers.due("a top quota, blocks(" + set + ", 0)", s.blocks(set, 0), true);
        }
    }

    private static void blocksByTheEmptySet() {
        answers.about("Terms: the set of all other nodes .. does not meet it (the set is empty)");
        for (int k = 1; k <= 9; k++) {
            SliceVoting s = new SliceVoting(3);
            Networks.top(s, 1, k, 7);
            answers.due("K " + k + " of 3", s.blocks(0, 1), k > 3);
        }
    }

    private static void blocksWithAndWithoutItself() {
        answers.about("Terms: (all that are not in the set, v perhaps among them)");
        SliceVoting s = new SliceVoting(3);
        Networks.top(s, 0, 2, 7);
        answers.due("node 0 counts for itself", s.blocks(2, 0), false);
        answers.due("node 0 is in the set", s.blocks(3, 0), true);
        answers.due("node 0 alone in the set", s.blocks(1, 0), false);
        answers.due("both others in the set", s.blocks(6, 0), true);
        SliceVoting self = new SliceVoting(2);
        Networks.top(self, 0, 1, 1);
        answers.due("it needs itself alone, in the set", self.blocks(1, 0), true);
        answers.due("it needs itself alone, not in the set", self.blocks(2, 0), false);
    }

    private static void blocksByAll() {
        answers.about("Terms: the set of all other nodes .. does not meet it (the set has all nodes)");
        for (int n = 1; n <= 6; n++) {
            SliceVoting s = Networks.allTrustAll(n, 1);
            for (int v = 0; v < n; v++) {
                answers.due(n + " nodes, node " + v, s.blocks((1 << n) - 1, v), true);
            }
        }
    }

    private static void blocksNoNode() {
        answers.about("Promise 17: false also when v is no node");
        SliceVoting s = Networks.allTrustAll(3, 9);
        for (int v : Wrong.nodes(3)) {
            for (int set = 0; set < 8; set++) {
                answers.due("blocks(" + set + ", " + v + ")", s.blocks(set, v), false);
            }
        }
        for (int v = 0; v < 3; v++) {
            answers.due("blocks(0, " + v + ")", s.blocks(0, v), true);
        }
    }

    private static void blocksBeyondTheNodes() {
        answers.about("Promise 17: false also when .. the set has a bit for which there is no node");
        for (int n = 1; n <= 6; n++) {
            SliceVoting s = Networks.allTrustAll(n, 9);
            for (int set : Wrong.sets(n)) {
                answers.due(n + " nodes, blocks(" + set + ", 0)", s.blocks(set, 0), false);
                answers.due(n + " nodes, blocks(" + set + ", " + (n - 1) + ")", s.blocks(set, n - 1), false);
                answers.due(n + " nodes, blocks(" + set + ", " + n + ")", s.blocks(set, n), false);
            }
            answers.due(n + " nodes, all of them", s.blocks((1 << n) - 1, 0), true);
        }
    }

    // ---- promise 18

    private static void intertwinedWithItself() {
        answers.about("Promise 18: (v may be w)");
        SliceVoting s = new SliceVoting(4);
        Networks.top(s, 0, 1, 1);
        Networks.top(s, 1, 1, 15);
        Networks.top(s, 2, 9, 15);
        s.corrupt(3);
        answers.due("one that is enough for itself", s.intertwined(0, 0), true);
        answers.due("one with many quorums", s.intertwined(1, 1), true);
        answers.due("one that is in no quorum", s.intertwined(2, 2), true);
        answers.due("one that is ill-behaved", s.intertwined(3, 3), false);
        // All its quorums have ill-behaved nodes in them, and itself.
        SliceVoting t = Networks.allTrustAll(3, 2);
        t.corrupt(1);
        t.corrupt(2);
        answers.due("with ill-behaved nodes around it", t.intertwined(0, 0), true);
    }

    private static void intertwinedInNoQuorum() {
        answers.about("Promise 18: true when one of them is in no quorum");
        SliceVoting s = new SliceVoting(4);
        Networks.top(s, 0, 1, 1);
        Networks.top(s, 1, 9, 15);
        Networks.top(s, 3, 1, 8);
        for (int v = 1; v <= 2; v++) {
            answers.due("intertwined(0, " + v + ")", s.intertwined(0, v), true);
            answers.due("intertwined(" + v + ", 0)", s.intertwined(v, 0), true);
        }
        answers.due("neither is in a quorum", s.intertwined(1, 2), true);
        answers.due("both are", s.intertwined(0, 3), false);
        answers.due("a new object", new SliceVoting(6).intertwined(0, 5), true);
        s.corrupt(2);
        answers.due("in no quorum, but ill-behaved", s.intertwined(0, 2), false);
        answers.due("in no quorum, but ill-behaved, the other way", s.intertwined(2, 0), false);
        answers.due("the other is in no quorum", s.intertwined(1, 2), false);
    }

    private static void intertwinedNoNode() {
        answers.about("Promise 18: Whether v and w are .. nodes");
        SliceVoting s = Networks.allTrustAll(3, 3);
        SliceVoting bare = new SliceVoting(3);
        for (int v : Wrong.nodes(3)) {
            answers.due("intertwined(" + v + ", 0)", s.intertwined(v, 0), false);
            answers.due("intertwined(0, " + v + ")", s.intertwined(0, v), false);
            answers.due("intertwined(" + v + ", " + v + ")", s.intertwined(v, v), false);
            answers.due("in no quorum, intertwined(" + v + ", 0)", bare.intertwined(v, 0), false);
            answers.due("in no quorum, intertwined(0, " + v + ")", bare.intertwined(0, v), false);
        }
        answers.due("intertwined(0, 2)", s.intertwined(0, 2), true);
    }

    private static void intertwinedIllBehaved() {
        answers.about("Promise 18: Whether v and w are well-behaved nodes");
        SliceVoting s = Networks.allTrustAll(4, 4);
        s.corrupt(3);
        for (int v = 0; v < 4; v++) {
            for (int w = 0; w < 4; w++) {
                answers.due("intertwined(" + v + ", " + w + ")", s.intertwined(v, w), v != 3 && w != 3);
            }
        }
        s.corrupt(2);
        answers.due("both are ill-behaved", s.intertwined(2, 3), false);
    }

    private static void intertwinedByIllBehavedNodesOnly() {
        answers.about("Promise 18: a well-behaved node in common");
        SliceVoting s = new SliceVoting(4);
        Networks.top(s, 0, 3, 13);
        Networks.top(s, 1, 3, 14);
        Networks.top(s, 2, 1, 4);
        Networks.top(s, 3, 1, 8);
        answers.due("nodes 2 and 3 in common", s.intertwined(0, 1), true);
        s.corrupt(2);
        answers.due("node 3 in common, well-behaved", s.intertwined(0, 1), true);
        s.corrupt(3);
        answers.due("only ill-behaved ones in common", s.intertwined(0, 1), false);
        answers.due("only ill-behaved ones in common, the other way", s.intertwined(1, 0), false);
        answers.due("with itself it has itself in common", s.intertwined(0, 0), true);
    }

    private static void intertwinedEveryPairOfQuorums() {
        answers.about("Promise 18: every quorum with v in it has with every quorum with w in it");
        for (int n = 2; n <= 6; n++) {
            for (int k = 1; k <= n; k++) {
                SliceVoting s = Networks.allTrustAll(n, k);
                answers.due(k + " of " + n, s.intertwined(0, n - 1), 2 * k > n);
            }
        }
        // Node 0 has one quorum that meets node 1's, and one that does not.
        SliceVoting s = new SliceVoting(3);
        Networks.top(s, 0, 2, 7);
        Networks.top(s, 1, 1, 2);
        Networks.top(s, 2, 1, 4);
        answers.due("{0, 1} meets {1}, {0, 2} does not", s.intertwined(0, 1), false);
        answers.due("the other way", s.intertwined(1, 0), false);
        // Node 1's greatest quorum meets node 0's, its least does not.
        SliceVoting t = new SliceVoting(3);
        Networks.top(t, 0, 1, 1);
        Networks.top(t, 1, 1, 2);
        answers.due("{0, 1} meets {0}, {1} does not", t.intertwined(0, 1), false);
    }

    private static void corruptionChangesNoQuorum() {
        answers.about("Terms: A QUORUM is a set of nodes .. (well-behaved or not)");
        SliceVoting s = Networks.allTrustAll(4, 3);
        for (int v = 0; v < 4; v++) {
            s.corrupt(v);
            answers.due("quorum(7)", s.quorum(7), true);
            answers.due("quorum(3)", s.quorum(3), false);
            answers.due("largest(15)", s.largest(15), 15);
            answers.due("blocks(3, 0)", s.blocks(3, 0), true);
        }
    }
}
