/** Networks that several tests start from. */
final class Networks {
    private Networks() {
    }

    /** Every one of n nodes has a top quota of its own number: k of all nodes. */
    static SliceVoting allTrustAll(int n, int k) {
        SliceVoting s = new SliceVoting(n);
        for (int v = 0; v < n; v++) {
            top(s, v, k, (1 << n) - 1);
        }
        return s;
    }

    static int top(SliceVoting s, int v, int k, int members) {
        return filled(s, s.quota(v, SliceVoting.NONE, k), members);
    }

    static int inner(SliceVoting s, int v, int parent, int k, int members) {
        return filled(s, s.quota(v, parent, k), members);
    }

    private static int filled(SliceVoting s, int q, int members) {
        for (int w = 0; w < 6; w++) {
            if ((members >> w & 1) != 0) {
                s.member(q, w);
            }
        }
        return q;
    }

    /** A single node whose quota is itself alone: it accepts and confirms what it votes for. */
    static SliceVoting alone() {
        return allTrustAll(1, 1);
    }

    /**
     * Node 0 is ill-behaved and needs itself alone; node 1 needs both. What node 0 says that it
     * accepted, node 1 accepts and confirms, where it contradicts nothing that node 1 accepted.
     */
    static SliceVoting puppet() {
        SliceVoting s = new SliceVoting(2);
        top(s, 0, 1, 1);
        top(s, 1, 2, 3);
        s.corrupt(0);
        return s;
    }

    static int prepare(int counter, int value) {
        return 1 << (3 * (counter - 1) + value);
    }

    static int commit(int counter, int value) {
        return prepare(counter, value) << 12;
    }

    /** Every well-behaved node hears every other one, in the order of their numbers. */
    static void round(SliceVoting s, int n) {
        for (int v = 0; v < n; v++) {
            for (int w = 0; w < n; w++) {
                s.deliver(v, w);
            }
        }
    }
}
