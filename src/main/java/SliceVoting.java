/**
 * Nodes that trust one another by sets of their own choice agree on a value by voting: they vote
 * for, accept and confirm statements about ballots.
 *
 * <p>Sets of nodes and sets of statements are ints with one bit for each element.
 */
public final class SliceVoting {
    public static final int NONE = -1;

    private static final int MOST_NODES = 6;
    private static final int MOST_QUOTAS_OF_A_NODE = 4;
    private static final int MOST_LEVELS = 3;
    private static final int MOST_NEEDED = 9;
    private static final int VALUES = 3;
    private static final int MOST_COUNTER = 4;
    private static final int BALLOTS = VALUES * MOST_COUNTER;
    private static final int STATEMENTS = 2 * BALLOTS;
    private static final int ALL_STATEMENTS = (1 << STATEMENTS) - 1;
    // Settling accepts and confirms each statement at most once and votes for one COMMIT at most.
    private static final int MOST_STEPS = 2 * STATEMENTS + 1;

    private final Node[] nodes;
    private final int everyone;
    private final Quota[] quotas;
    private int quotaCount;
    private int wellBehaved;
    private boolean moving;

    public SliceVoting(int nodes) {
        int count = Math.max(1, Math.min(MOST_NODES, nodes));
        this.nodes = new Node[count];
        for (int v = 0; v < count; v++) {
            this.nodes[v] = new Node(v, count);
        }
        everyone = (1 << count) - 1;
        quotas = new Quota[count * MOST_QUOTAS_OF_A_NODE];
        quotaCount = 0;
        wellBehaved = everyone;
        moving = false;
    }

    public int quota(int v, int parent, int k) {
        if (moving || !isNode(v) || k < 1 || k > MOST_NEEDED) {
            return NONE;
        }
        Node owner = nodes[v];
        if (owner.quotaCount >= MOST_QUOTAS_OF_A_NODE) {
            return NONE;
        }
        return parent == NONE ? addTopQuota(owner, k) : addInnerQuota(owner, parent, k);
    }

    public boolean member(int q, int w) {
        if (moving || !isQuota(q) || !isNode(w) || has(quotas[q].members, w)) {
            return false;
        }
        quotas[q].members |= 1 << w;
        return true;
    }

    public boolean corrupt(int v) {
        if (!isWellBehaved(v)) {
            return false;
        }
        wellBehaved &= ~(1 << v);
        return true;
    }

    public int propose(int v, int c, int x) {
        if (!isWellBehaved(v) || c > MOST_COUNTER || x < 0 || x >= VALUES) {
            return NONE;
        }
        Node node = nodes[v];
        // A counter is never below 0, so this refuses every c below 1 too.
        if (c <= node.counter) {
            return NONE;
        }
        moving = true;
        node.value = valueToPropose(node, x);
        node.counter = c;
        for (int counter = 1; counter <= c; counter++) {
            voteIfAllowed(node, ballot(counter, node.value));
        }
        settle(node);
        return node.value;
    }

    public boolean deliver(int v, int w) {
        if (!isWellBehaved(v) || !isWellBehaved(w) || v == w) {
            return false;
        }
        hear(nodes[w], v, nodes[v].knownVotes[v], nodes[v].knownAccepts[v]);
        settle(nodes[w]);
        return true;
    }

    public boolean say(int v, int w, int votes, int accepts) {
        if (!isNode(v) || isWellBehaved(v) || !isWellBehaved(w)) {
            return false;
        }
        hear(nodes[w], v, votes & ALL_STATEMENTS, accepts & ALL_STATEMENTS);
        settle(nodes[w]);
        return true;
    }

    public int voted(int v) {
        return known(v, v, false);
    }

    public int accepted(int v) {
        return known(v, v, true);
    }

    public int confirmed(int v) {
        return isNode(v) ? nodes[v].confirmed : 0;
    }

    public int counter(int v) {
        return isNode(v) ? nodes[v].counter : 0;
    }

    public int value(int v) {
        return isNode(v) ? nodes[v].value : 0;
    }

    public int decided(int v) {
        return isNode(v) ? nodes[v].decision : NONE;
    }

    public int known(int v, int w, boolean accepts) {
        if (!isNode(v) || !isNode(w)) {
            return 0;
        }
        return accepts ? nodes[v].knownAccepts[w] : nodes[v].knownVotes[w];
    }

    public boolean quorum(int set) {
        return isSetOfNodes(set) && isQuorum(set);
    }

    public int largest(int set) {
        return isSetOfNodes(set) ? unionOfQuorumsIn(set) : NONE;
    }

    public boolean blocks(int set, int v) {
        return isSetOfNodes(set) && isNode(v) && isBlockedBy(nodes[v], set);
    }

    public boolean intertwined(int v, int w) {
        if (!isWellBehaved(v) || !isWellBehaved(w)) {
            return false;
        }
        for (int set = 1; set <= everyone; set++) {
            // A quorum that shares no well-behaved node with this one lies wholly in the rest.
            int rest = everyone & ~(set & wellBehaved);
            if (has(set, v) && isQuorum(set) && has(unionOfQuorumsIn(rest), w)) {
                return false;
            }
        }
        return true;
    }

    // ---- nodes and their quotas

    private boolean isNode(int v) {
        return v >= 0 && v < nodes.length;
    }

    private boolean isWellBehaved(int v) {
        return isNode(v) && has(wellBehaved, v);
    }

    private boolean isSetOfNodes(int set) {
        return (set & ~everyone) == 0;
    }

    private boolean isQuota(int q) {
        return q >= 0 && q < quotaCount;
    }

    private int addTopQuota(Node owner, int need) {
        if (owner.top != null) {
            return NONE;
        }
        owner.top = new Quota(owner, 1, need);
        return number(owner.top);
    }

    private int addInnerQuota(Node owner, int parent, int need) {
        if (!isQuota(parent)) {
            return NONE;
        }
        Quota outer = quotas[parent];
        if (outer.owner != owner || outer.level >= MOST_LEVELS) {
            return NONE;
        }
        Quota inner = new Quota(owner, outer.level + 1, need);
        inner.nextInner = outer.firstInner;
        outer.firstInner = inner;
        return number(inner);
    }

    private int number(Quota quota) {
        quota.owner.quotaCount++;
        quotas[quotaCount] = quota;
        quotaCount++;
        return quotaCount - 1;
    }

    /** No set meets the top quota of a node that has none. */
    private static boolean isMet(Quota quota, int set, int level) {
        if (quota == null || level > MOST_LEVELS) {
            return false;
        }
        int met = Integer.bitCount(quota.members & set);
        for (Quota inner = quota.firstInner; inner != null; inner = inner.nextInner) {
            if (isMet(inner, set, level + 1)) {
                met++;
            }
        }
        return met >= quota.need;
    }

    // ---- quorums

    private boolean isBlockedBy(Node node, int set) {
        return node.top != null && !isMet(node.top, everyone & ~set, 1);
    }

    private boolean isQuorum(int set) {
        return set != 0 && unionOfQuorumsIn(set) == set;
    }

    /** A union of quorums is a quorum: it is what stays when unsatisfied nodes leave the set. */
    private int unionOfQuorumsIn(int set) {
        int rest = set;
        // Every round but the last loses a node, so as many rounds as nodes are enough.
        for (int round = 0; round < nodes.length; round++) {
            int before = rest;
            for (int v = 0; v < nodes.length; v++) {
                if (has(rest, v) && !isMet(nodes[v].top, rest, 1)) {
                    rest &= ~(1 << v);
                }
            }
            if (rest == before) {
                break;
            }
        }
        return rest;
    }

    // ---- statements

    private static boolean has(int set, int element) {
        return (set >>> element & 1) != 0;
    }

    private static int ballot(int counter, int value) {
        return VALUES * (counter - 1) + value;
    }

    private static int commitOf(int ballot) {
        return BALLOTS + ballot;
    }

    private static boolean isCommit(int statement) {
        return statement >= BALLOTS;
    }

    private static int ballotOf(int statement) {
        return statement % BALLOTS;
    }

    private static int valueOf(int statement) {
        // COMMIT of a ballot stands a multiple of VALUES above its PREPARE.
        return statement % VALUES;
    }

    private static boolean contradict(int s, int t) {
        if (valueOf(s) == valueOf(t)) {
            return false;
        }
        if (isCommit(s) && isCommit(t)) {
            return true;
        }
        return isCommit(s) && ballotOf(t) > ballotOf(s)
            || isCommit(t) && ballotOf(s) > ballotOf(t);
    }

    private static boolean contradictsOneOf(int statement, int set) {
        for (int other = 0; other < STATEMENTS; other++) {
            if (has(set, other) && contradict(statement, other)) {
                return true;
            }
        }
        return false;
    }

    // ---- what a node does

    private static int valueToPropose(Node node, int wish) {
        for (int s = BALLOTS; s < STATEMENTS; s++) {
            if (has(node.knownAccepts[node.number], s)) {
                return valueOf(s);
            }
        }
        for (int s = BALLOTS - 1; s >= 0; s--) {
            if (has(node.confirmed, s)) {
                return valueOf(s);
            }
        }
        return wish;
    }

    private void hear(Node node, int speaker, int votes, int accepts) {
        moving = true;
        node.knownVotes[speaker] = votes;
        node.knownAccepts[speaker] = accepts;
    }

    private static boolean voteIfAllowed(Node node, int statement) {
        int own = node.number;
        if (contradictsOneOf(statement, node.knownVotes[own] | node.knownAccepts[own])) {
            return false;
        }
        node.knownVotes[own] |= 1 << statement;
        return true;
    }

    private void settle(Node node) {
        for (int step = 0; step < MOST_STEPS; step++) {
            if (!acceptLeast(node) && !confirmLeast(node) && !voteForCommit(node)) {
                return;
            }
        }
    }

    private boolean acceptLeast(Node node) {
        for (int s = 0; s < STATEMENTS; s++) {
            if (mayAccept(node, s)) {
                node.knownAccepts[node.number] |= 1 << s;
                return true;
            }
        }
        return false;
    }

    private boolean mayAccept(Node node, int statement) {
        int accepts = node.knownAccepts[node.number];
        if (has(accepts, statement) || contradictsOneOf(statement, accepts)) {
            return false;
        }
        int acceptors = nodesThatSaid(node.knownAccepts, statement);
        int voters = nodesThatSaid(node.knownVotes, statement);
        // It has not accepted the statement, so it is none of the acceptors itself.
        return isInQuorumWithin(node, voters | acceptors) || isBlockedBy(node, acceptors);
    }

    private boolean confirmLeast(Node node) {
        for (int s = 0; s < STATEMENTS; s++) {
            if (mayConfirm(node, s)) {
                node.confirmed |= 1 << s;
                decideBy(node, s);
                return true;
            }
        }
        return false;
    }

    private boolean mayConfirm(Node node, int statement) {
        return !has(node.confirmed, statement)
            && isInQuorumWithin(node, nodesThatSaid(node.knownAccepts, statement));
    }

    private static void decideBy(Node node, int statement) {
        if (isCommit(statement) && node.decision == NONE) {
            node.decision = valueOf(statement);
        }
    }

    private static boolean voteForCommit(Node node) {
        if (node.counter == 0) {
            return false;
        }
        int prepare = ballot(node.counter, node.value);
        int commit = commitOf(prepare);
        return !has(node.knownVotes[node.number], commit)
            && has(node.confirmed, prepare)
            && voteIfAllowed(node, commit);
    }

    private boolean isInQuorumWithin(Node node, int set) {
        return has(set, node.number) && has(unionOfQuorumsIn(set), node.number);
    }

    private static int nodesThatSaid(int[] known, int statement) {
        int set = 0;
        for (int v = 0; v < known.length; v++) {
            if (has(known[v], statement)) {
                set |= 1 << v;
            }
        }
        return set;
    }

    private static final class Node {
        private final int number;
        // What it knows of each node; its own votes and accepted statements stand at its own number.
        private final int[] knownVotes;
        private final int[] knownAccepts;
        private int confirmed;
        private int counter;
        private int value;
        private int decision;
        private Quota top;
        private int quotaCount;

        private Node(int number, int nodes) {
            this.number = number;
            knownVotes = new int[nodes];
            knownAccepts = new int[nodes];
            confirmed = 0;
            counter = 0;
            value = 0;
            decision = NONE;
            top = null;
            quotaCount = 0;
        }
    }

    private static final class Quota {
        private final Node owner;
        private final int level;
        private final int need;
        private int members;
        private Quota firstInner;
        private Quota nextInner;

        private Quota(Node owner, int level, int need) {
            this.owner = owner;
            this.level = level;
            this.need = need;
            members = 0;
            firstInner = null;
            nextInner = null;
        }
    }
}
