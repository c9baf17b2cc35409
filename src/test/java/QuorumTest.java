/** Promises 15 to 18: quorum, largest, blocks, intertwined. */
final class QuorumTest {
    private static final int NONE = SliceVoting.NONE;
    private static final int[] BEYOND = {8, 16, 32, 64, 9, 15, 1 << 31, -1, -8, Integer.MAX_VALUE};
    private static final Answers answers = new Answers();

    public static void main(String[] args) {
        threshold();
        withoutTopQuota();
        innerQuotas();
        beyondTheNodes();
        largest();
        blocks();
        intertwined();
        intertwinedThroughIllBehaved();
        intertwinedAfterOneOfTwo();
        answers.end();
    }

    private static void threshold() {
        for (int n = 1; n <= 6; n++) {
            for (int k = 1; k <= 9; k++) {
                SliceVoting s = Networks.allTrustAll(n, k);
                for (int set = 0; set < 1 << n; set++) {
                    int size = Integer.bitCount(set);
                    boolean enough = set != 0 && size >= k;
                    String name = k + " of " + n + ", set " + set;
                    answers.due("quorum, " + name, s.quorum(set), enough);
                    answers.due("largest, " + name, s.largest(set), enough ? set : 0);
                    answers.due("blocks, " + name, s.blocks(set, n - 1), n - size < k);
                }
            }
        }
    }

    private static void withoutTopQuota() {
        SliceVoting s = new SliceVoting(3);
        Networks.top(s, 0, 1, 7);
        answers.due("alone", s.quorum(1), true);
        answers.due("node 1 has no top quota", s.quorum(3), false);
        answers.due("node 1 is in no quorum", s.largest(7), 1);
        answers.due("nothing blocks node 1", s.blocks(7, 1), false);
        answers.due("all nodes block node 0", s.blocks(7, 0), true);
        answers.due("node 2 lets node 0 through", s.blocks(3, 0), false);
    }

    private static void innerQuotas() {
        SliceVoting s = new SliceVoting(5);
        int top = Networks.top(s, 0, 2, 1);
        int pair = Networks.inner(s, 0, top, 2, 6);
        int either = Networks.inner(s, 0, top, 1, 24);
        answers.due("three quotas", either, 2);
        for (int set = 0; set < 32; set++) {
            int met = set & 1;
            met += (set & 6) == 6 ? 1 : 0;
            met += (set & 24) != 0 ? 1 : 0;
            answers.due("blocks(" + (31 & ~set) + ", 0)", s.blocks(31 & ~set, 0), met < 2);
        }
        Networks.inner(s, 0, pair, 1, 8);
        for (int set = 0; set < 32; set++) {
            int inPair = Integer.bitCount(set & 6) + (set >> 3 & 1);
            int met = set & 1;
            met += inPair >= 2 ? 1 : 0;
            met += (set & 24) != 0 ? 1 : 0;
            answers.due("deeper, blocks(" + (31 & ~set) + ", 0)", s.blocks(31 & ~set, 0), met < 2);
        }
    }

    private static void beyondTheNodes() {
        SliceVoting s = Networks.allTrustAll(3, 1);
        for (int set : BEYOND) {
            answers.due("quorum(" + set + ")", s.quorum(set), false);
            answers.due("largest(" + set + ")", s.largest(set), NONE);
            answers.due("blocks(" + set + ", 0)", s.blocks(set, 0), false);
        }
        int[] noNodes = {-1, 3, 6, 32, -32, Integer.MIN_VALUE, Integer.MAX_VALUE};
        for (int v : noNodes) {
            answers.due("blocks(7, " + v + ")", s.blocks(7, v), false);
            answers.due("intertwined(0, " + v + ")", s.intertwined(0, v), false);
            answers.due("intertwined(" + v + ", 0)", s.intertwined(v, 0), false);
            answers.due("intertwined(" + v + ", " + v + ")", s.intertwined(v, v), false);
        }
        answers.due("blocks(7, 0)", s.blocks(7, 0), true);
        SliceVoting six = Networks.allTrustAll(6, 6);
        answers.due("all six", six.quorum(63), true);
        answers.due("a seventh", six.quorum(127), false);
        answers.due("a seventh", six.largest(127), NONE);
        answers.due("a seventh", six.blocks(127, 0), false);
    }

    private static void largest() {
        SliceVoting s = new SliceVoting(6);
        Networks.top(s, 0, 2, 3);
        Networks.top(s, 1, 2, 3);
        Networks.top(s, 2, 2, 12);
        Networks.top(s, 3, 2, 12);
        Networks.top(s, 4, 1, 32);
        Networks.top(s, 5, 2, 33);
        answers.due("the empty set", s.largest(0), 0);
        answers.due("two apart", s.largest(15), 15);
        answers.due("one of them and half of the other", s.largest(7), 3);
        answers.due("a chain that falls one by one", s.largest(62), 12);
        answers.due("a chain that holds", s.largest(63), 63);
        answers.due("half of each", s.largest(5), 0);
        SliceVoting chain = new SliceVoting(6);
        for (int v = 0; v < 6; v++) {
            Networks.top(chain, v, 1, 1 << (v == 5 ? 5 : v + 1));
        }
        answers.due("a chain with its end", chain.largest(63), 63);
        answers.due("a chain without its end", chain.largest(31), 0);
        answers.due("a chain with a gap", chain.largest(55), 48);
    }

    private static void blocks() {
        SliceVoting s = new SliceVoting(4);
        Networks.top(s, 0, 2, 13);
        answers.due("two of three", s.blocks(12, 0), true);
        answers.due("one of three", s.blocks(8, 0), false);
        answers.due("itself and one", s.blocks(9, 0), true);
        answers.due("one that is no member", s.blocks(10, 0), false);
        answers.due("nobody", s.blocks(0, 0), false);
        Networks.top(s, 1, 4, 7);
        answers.due("nobody, when all do not meet it", s.blocks(0, 1), true);
    }

    private static void intertwined() {
        SliceVoting s = new SliceVoting(6);
        Networks.top(s, 0, 2, 3);
        Networks.top(s, 1, 2, 3);
        Networks.top(s, 2, 1, 4);
        Networks.top(s, 3, 2, 12);
        Networks.top(s, 4, 9, 63);
        answers.due("of one quorum", s.intertwined(0, 1), true);
        answers.due("two apart", s.intertwined(0, 2), false);
        answers.due("two apart, the other way", s.intertwined(2, 0), false);
        answers.due("one leans on the other", s.intertwined(2, 3), true);
        answers.due("one leans on the other, the other way", s.intertwined(3, 2), true);
        answers.due("a node in no quorum", s.intertwined(4, 0), true);
        answers.due("a node in no quorum, the other way", s.intertwined(0, 4), true);
        answers.due("a node without a quota", s.intertwined(5, 2), true);
        for (int v = 0; v < 6; v++) {
            answers.due("with itself " + v, s.intertwined(v, v), true);
        }
    }

    private static void intertwinedThroughIllBehaved() {
        SliceVoting s = new SliceVoting(3);
        Networks.top(s, 0, 2, 5);
        Networks.top(s, 1, 2, 6);
        Networks.top(s, 2, 1, 4);
        answers.due("by node 2", s.intertwined(0, 1), true);
        s.corrupt(2);
        answers.due("by node 2 no more", s.intertwined(0, 1), false);
        answers.due("with itself", s.intertwined(0, 0), true);
        answers.due("ill-behaved", s.intertwined(0, 2), false);
        answers.due("ill-behaved, the other way", s.intertwined(2, 0), false);
        answers.due("ill-behaved with itself", s.intertwined(2, 2), false);
        answers.due("it is in quorums as before", s.quorum(5), true);
        answers.due("it is in quorums as before", s.largest(7), 7);
    }

    private static void intertwinedAfterOneOfTwo() {
        SliceVoting s = Networks.allTrustAll(4, 3);
        answers.due("3 of 4", s.intertwined(0, 1), true);
        s.corrupt(3);
        answers.due("3 of 4, one ill-behaved", s.intertwined(0, 1), true);
        answers.due("3 of 4, with the ill-behaved one", s.intertwined(0, 3), false);
        answers.due("3 of 4, with the ill-behaved one, the other way", s.intertwined(3, 0), false);
        s.corrupt(2);
        answers.due("3 of 4, two ill-behaved", s.intertwined(0, 1), false);
        SliceVoting half = Networks.allTrustAll(4, 2);
        answers.due("2 of 4", half.intertwined(0, 1), false);
    }
}
