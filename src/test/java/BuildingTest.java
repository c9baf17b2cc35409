/** Promises 1 to 4: a new object, quota, member, corrupt. */
final class BuildingTest {
    private static final int NONE = SliceVoting.NONE;
    private static final Answers answers = new Answers();

    public static void main(String[] args) {
        answers.due("NONE", NONE, -1);
        numberOfNodes();
        newNodesAreEmpty();
        quotaNumbers();
        quotaRefusals();
        quotaLevels();
        quotaCountOfANode();
        quotaNumberEdges();
        allQuotas();
        member();
        memberRefusals();
        moving();
        refusedCallsDoNotMove();
        corrupt();
        corruptDoesNotMove();
        answers.end();
    }

    private static void numberOfNodes() {
        int[][] cases = {
            {1, 1}, {2, 2}, {3, 3}, {4, 4}, {5, 5}, {6, 6}, {0, 1}, {-1, 1}, {7, 6}, {8, 6}, {64, 6},
            {Integer.MIN_VALUE, 1}, {Integer.MAX_VALUE, 6}};
        for (int[] c : cases) {
            SliceVoting s = new SliceVoting(c[0]);
            for (int v = -3; v < 40; v++) {
                answers.due("new " + c[0] + " corrupt(" + v + ")", s.corrupt(v), v >= 0 && v < c[1]);
            }
            for (int bit = 0; bit < 32; bit++) {
                answers.due("new " + c[0] + " largest of bit " + bit, s.largest(1 << bit), bit < c[1] ? 0 : NONE);
            }
        }
    }

    private static void newNodesAreEmpty() {
        SliceVoting s = new SliceVoting(6);
        for (int v = 0; v < 6; v++) {
            answers.due("voted", s.voted(v), 0);
            answers.due("accepted", s.accepted(v), 0);
            answers.due("confirmed", s.confirmed(v), 0);
            answers.due("counter", s.counter(v), 0);
            answers.due("value", s.value(v), 0);
            answers.due("decided", s.decided(v), NONE);
            for (int w = 0; w < 6; w++) {
                answers.due("known votes", s.known(v, w, false), 0);
                answers.due("known accepts", s.known(v, w, true), 0);
                answers.due("all are well-behaved", s.intertwined(v, w), true);
            }
            answers.due("no top quota to block", s.blocks(63, v), false);
            answers.due("no quota to have members", s.member(v, 0), false);
            answers.due("no quota to be a parent", s.quota(v, 0, 1), NONE);
        }
        answers.due("no quorum", s.largest(63), 0);
    }

    private static void quotaNumbers() {
        SliceVoting s = new SliceVoting(3);
        answers.due("first quota", s.quota(2, NONE, 1), 0);
        answers.due("second quota", s.quota(0, NONE, 9), 1);
        answers.due("inner to the first", s.quota(2, 0, 1), 2);
        answers.due("a refused one takes no number", s.quota(0, NONE, 1), NONE);
        answers.due("inner to the second", s.quota(0, 1, 1), 3);
        answers.due("top of the third node", s.quota(1, NONE, 1), 4);
        answers.due("a quota without members is met by no set", s.quorum(7), false);
        answers.due("a quota without members is blocked by the empty set", s.blocks(0, 2), true);
    }

    private static void quotaRefusals() {
        SliceVoting s = new SliceVoting(2);
        answers.due("inner without a top", s.quota(0, 0, 1), NONE);
        answers.due("top of 0", s.quota(0, NONE, 1), 0);
        answers.due("top of 1", s.quota(1, NONE, 1), 1);
        s.member(0, 0);
        s.member(1, 1);
        String before = Answers.picture(s, 2);
        int[] noNodes = {-1, 2, 5, 6, 32, Integer.MIN_VALUE, Integer.MAX_VALUE};
        for (int v : noNodes) {
            answers.due("no node " + v, s.quota(v, NONE, 1), NONE);
            answers.due("no node " + v + " with a parent", s.quota(v, 0, 1), NONE);
        }
        int[] noNumbers = {0, -1, 10, 11, Integer.MIN_VALUE, Integer.MAX_VALUE};
        for (int k : noNumbers) {
            answers.due("number " + k, s.quota(0, 0, k), NONE);
        }
        int[] noParents = {-2, 2, 3, 23, 24, 25, Integer.MIN_VALUE, Integer.MAX_VALUE};
        for (int parent : noParents) {
            answers.due("parent " + parent, s.quota(0, parent, 1), NONE);
        }
        answers.due("a second top", s.quota(0, NONE, 1), NONE);
        answers.due("a parent of another node", s.quota(0, 1, 1), NONE);
        answers.due("a parent of another node", s.quota(1, 0, 1), NONE);
        answers.same("a refused quota", s, 2, before);
        answers.due("numbers went on as before", s.quota(1, 1, 1), 2);
    }

    private static void quotaLevels() {
        SliceVoting s = new SliceVoting(1);
        answers.due("level 1", s.quota(0, NONE, 1), 0);
        answers.due("level 2", s.quota(0, 0, 1), 1);
        answers.due("level 3", s.quota(0, 1, 1), 2);
        answers.due("level 4", s.quota(0, 2, 1), NONE);
        s.member(2, 0);
        answers.due("the innermost quota counts through all levels", s.quorum(1), true);
        answers.due("a second one of level 3", s.quota(0, 1, 1), 3);
    }

    private static void quotaCountOfANode() {
        SliceVoting s = new SliceVoting(2);
        answers.due("first", s.quota(0, NONE, 1), 0);
        answers.due("second", s.quota(0, 0, 1), 1);
        answers.due("third", s.quota(0, 0, 1), 2);
        answers.due("fourth", s.quota(0, 0, 1), 3);
        answers.due("fifth", s.quota(0, 0, 1), NONE);
        answers.due("fifth, deeper", s.quota(0, 3, 1), NONE);
        answers.due("another node has its own four", s.quota(1, NONE, 1), 4);
    }

    private static void quotaNumberEdges() {
        for (int k = 1; k <= 9; k++) {
            SliceVoting s = new SliceVoting(6);
            answers.due("number " + k, s.quota(0, NONE, k), 0);
            for (int w = 0; w < 6; w++) {
                s.member(0, w);
            }
            for (int i = 1; i <= 3; i++) {
                s.quota(0, 0, 1);
                s.member(i, 0);
            }
            for (int set = 0; set < 64; set++) {
                int others = 63 & ~set;
                int count = Integer.bitCount(others) + 3 * (others & 1);
                answers.due("number " + k + " blocks(" + set + ", 0)", s.blocks(set, 0), count < k);
            }
        }
    }

    private static void allQuotas() {
        SliceVoting s = new SliceVoting(6);
        for (int i = 0; i < 24; i++) {
            int v = i % 6;
            answers.due("quota " + i, s.quota(v, i < 6 ? NONE : v, 1), i);
            answers.due("member of quota " + i, s.member(i, 5 - v), true);
        }
        for (int v = 0; v < 6; v++) {
            answers.due("a fifth", s.quota(v, v, 1), NONE);
        }
        answers.due("no quota 24", s.member(24, 0), false);
    }

    private static void member() {
        SliceVoting s = new SliceVoting(2);
        s.quota(0, NONE, 1);
        answers.due("no member yet", s.quorum(1), false);
        answers.due("the owner", s.member(0, 0), true);
        answers.due("the owner is a member now", s.quorum(1), true);
        answers.due("the owner again", s.member(0, 0), false);
        answers.due("another", s.member(0, 1), true);
        answers.due("another is a member now", s.blocks(1, 0), false);
        answers.due("another again", s.member(0, 1), false);
    }

    private static void memberRefusals() {
        SliceVoting s = new SliceVoting(2);
        answers.due("no quota at all", s.member(0, 0), false);
        s.quota(0, NONE, 1);
        String before = Answers.picture(s, 2);
        int[] others = {-1, -2, 2, 6, 24, 32, Integer.MIN_VALUE, Integer.MAX_VALUE};
        for (int other : others) {
            answers.due("quota " + other, s.member(other, 0), false);
            answers.due("node " + other, s.member(0, other), false);
        }
        answers.due("quota 1", s.member(1, 0), false);
        answers.same("a refused member", s, 2, before);
        answers.due("a corrupted node may be a member", s.corrupt(1) && s.member(0, 1), true);
    }

    private static void moving() {
        SliceVoting byPropose = Networks.allTrustAll(2, 2);
        byPropose.propose(0, 1, 0);
        standsStill("propose", byPropose);
        SliceVoting byDeliver = Networks.allTrustAll(2, 2);
        byDeliver.deliver(0, 1);
        standsStill("deliver", byDeliver);
        SliceVoting bySay = Networks.allTrustAll(2, 2);
        bySay.corrupt(0);
        bySay.say(0, 1, 0, 0);
        standsStill("say", bySay);
    }

    private static void standsStill(String by, SliceVoting s) {
        String before = Answers.picture(s, 2);
        answers.due("inner quota after " + by, s.quota(0, 0, 1), NONE);
        answers.due("member after " + by, s.member(0, 0), false);
        answers.same("after " + by + " a quota", s, 2, before);
        SliceVoting bare = new SliceVoting(3);
        bare.quota(0, NONE, 1);
        bare.deliver(1, 2);
        answers.due("top quota after deliver", bare.quota(1, NONE, 1), NONE);
        answers.due("new member after deliver", bare.member(0, 0), false);
        answers.due("that was refused", bare.quorum(1), false);
    }

    private static void refusedCallsDoNotMove() {
        SliceVoting s = new SliceVoting(3);
        s.corrupt(2);
        s.propose(0, 0, 0);
        s.propose(0, 5, 0);
        s.propose(0, 1, 3);
        s.propose(0, 1, -1);
        s.propose(2, 1, 0);
        s.propose(3, 1, 0);
        s.deliver(0, 0);
        s.deliver(0, 2);
        s.deliver(2, 0);
        s.deliver(0, 3);
        s.deliver(-1, 0);
        s.say(0, 1, 1, 1);
        s.say(2, 2, 1, 1);
        s.say(3, 1, 1, 1);
        s.say(2, 3, 1, 1);
        answers.due("quota after refused calls", s.quota(0, NONE, 1), 0);
        answers.due("member after refused calls", s.member(0, 0), true);
    }

    private static void corrupt() {
        SliceVoting s = Networks.allTrustAll(3, 2);
        answers.due("corrupt", s.corrupt(1), true);
        String before = Answers.picture(s, 3);
        answers.due("corrupt again", s.corrupt(1), false);
        int[] noNodes = {-1, 3, 6, 31, 32, 33, Integer.MIN_VALUE, Integer.MAX_VALUE};
        for (int v : noNodes) {
            answers.due("corrupt " + v, s.corrupt(v), false);
        }
        answers.same("a refused corrupt", s, 3, before);
        answers.due("it proposes no more", s.propose(1, 1, 0), NONE);
        answers.due("others still do", s.propose(0, 1, 0), 0);
        answers.due("corrupt while the network moves", s.corrupt(0), true);
        answers.due("it keeps its votes", s.voted(0), 1);
        answers.due("it keeps its counter", s.counter(0), 1);
    }

    private static void corruptDoesNotMove() {
        SliceVoting s = new SliceVoting(2);
        s.corrupt(0);
        s.corrupt(1);
        answers.due("quota of an ill-behaved node", s.quota(0, NONE, 1), 0);
        answers.due("member", s.member(0, 0), true);
        answers.due("an ill-behaved node can be a quorum", s.quorum(1), true);
    }
}
