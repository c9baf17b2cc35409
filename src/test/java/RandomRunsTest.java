import java.util.ArrayList;
import java.util.List;
import java.util.Random;
import java.util.TreeSet;

/**
 * Runs of calls drawn from fixed seeds, each answer compared with a model that follows the
 * document's words one by one: it lists quorums by trying every set and holds sets as sets.
 */
final class RandomRunsTest {
    private static final int RUNS = 6000;
    private static final int MOST_CALLS = 512;
    private static final Answers answers = new Answers();
    private static int decisions = 0;
    private static int commitsAccepted = 0;
    private static int votesLeft = 0;

    public static void main(String[] args) {
        for (int seed = 0; seed < RUNS; seed++) {
            new Run(seed).all();
        }
        System.out.println(decisions + " decisions, " + commitsAccepted + " nodes with COMMIT accepted and not confirmed, "
            + votesLeft + " votes left");
        answers.due("runs reach decisions", decisions > 1000, true);
        answers.due("runs accept COMMIT that they do not confirm", commitsAccepted > 100, true);
        answers.due("runs leave votes that contradict", votesLeft > 100, true);
        answers.end();
    }

    private static final class Run {
        final Random random;
        final int seed;
        final int n;
        final SliceVoting s;
        final Model model;
        int calls = 0;

        Run(int seed) {
            this.seed = seed;
            random = new Random(seed);
            n = random.nextInt(8) == 0 ? 1 + random.nextInt(2) : 3 + random.nextInt(4);
            s = new SliceVoting(n);
            model = new Model(n);
        }

        void all() {
            int kind = random.nextInt(3);
            if (kind == 0) {
                wildQuotas();
            } else {
                sensibleQuotas(kind == 1 ? n / 2 + 1 : 1);
            }
            askOfSets(15);
            int corrupted = random.nextInt(3) == 0 ? 0 : random.nextInt(3);
            for (int i = 0; i < corrupted; i++) {
                corrupt(random.nextInt(n));
            }
            askOfSets(5);
            boolean oneMind = random.nextInt(2) == 0;
            int favourite = random.nextInt(3);
            while (calls < MOST_CALLS - 100) {
                step(oneMind ? favourite : random.nextInt(3));
                askOfNode(random.nextInt(n));
            }
            for (int v = 0; v < n; v++) {
                askOfNode(v);
                askOfKnown(v);
            }
            askOfSets(1);
            answers.due("seed " + seed + " stays within the calls", calls <= MOST_CALLS, true);
            count();
        }

        void count() {
            for (int v = 0; v < n; v++) {
                decisions += model.nodes[v].decision >= 0 ? 1 : 0;
                TreeSet<Integer> open = new TreeSet<>(model.nodes[v].accepted);
                open.removeAll(model.nodes[v].confirmed);
                commitsAccepted += open.tailSet(12).isEmpty() ? 0 : 1;
            }
            votesLeft += model.votesLeft;
        }

        void sensibleQuotas(int least) {
            int need = least + random.nextInt(2);
            for (int v = 0; v < n; v++) {
                int q = quota(v, -1, Math.min(need, n));
                for (int w = 0; w < n; w++) {
                    if (random.nextInt(12) != 0) {
                        member(q, w);
                    }
                }
                if (random.nextInt(3) == 0) {
                    int inner = quota(v, q, 1 + random.nextInt(2));
                    member(inner, random.nextInt(n));
                    member(inner, random.nextInt(n));
                }
            }
        }

        void wildQuotas() {
            int count = random.nextInt(40);
            for (int i = 0; i < count; i++) {
                if (random.nextInt(3) == 0 || model.quotas.isEmpty()) {
                    int v = random.nextInt(n + 1) - random.nextInt(2);
                    int parent = random.nextInt(2) == 0 ? -1 : random.nextInt(model.quotas.size() + 2) - 1;
                    quota(v, parent, random.nextInt(5) == 0 ? random.nextInt(13) - 1 : 1 + random.nextInt(3));
                } else {
                    member(random.nextInt(model.quotas.size() + 1), random.nextInt(n + 1));
                }
            }
        }

        void step(int x) {
            int v = random.nextInt(n);
            int w = random.nextInt(n);
            switch (random.nextInt(24)) {
                case 0: case 1: case 2: case 3:
                    propose(v, 1 + random.nextInt(4), x);
                    break;
                case 4:
                    propose(random.nextInt(n + 2) - 1, random.nextInt(7) - 1, random.nextInt(5) - 1);
                    break;
                case 5: case 6: case 7: case 8:
                    say(illBehavedOr(v), w, sparse(), sparse());
                    break;
                case 9:
                    say(illBehavedOr(random.nextInt(n + 2) - 1), random.nextInt(n + 2) - 1, random.nextInt(), random.nextInt());
                    break;
                case 10:
                    corruptSeldom();
                    break;
                case 11:
                    quota(v, random.nextInt(3) - 1, 1);
                    member(0, w);
                    break;
                case 12: case 13: case 14:
                    for (int a = 0; a < n; a++) {
                        for (int b = 0; b < n; b++) {
                            deliver(a, b);
                        }
                    }
                    break;
                default:
                    deliver(random.nextInt(20) == 0 ? v - 1 : v, random.nextInt(20) == 0 ? w + 1 : w);
                    break;
            }
        }

        int illBehavedOr(int other) {
            for (int i = 0; i < 4; i++) {
                int v = random.nextInt(n);
                if (model.nodes[v].ill) {
                    return v;
                }
            }
            return other;
        }

        int sparse() {
            // Often one value up to a counter, as a well-behaved node would say it.
            int set = random.nextInt(2) == 0 ? 0 : (0x249 << random.nextInt(3)) & (1 << random.nextInt(13)) - 1;
            int count = random.nextInt(4);
            for (int i = 0; i < count; i++) {
                set |= 1 << random.nextInt(24);
            }
            return set;
        }

        void corruptSeldom() {
            if (random.nextInt(4) == 0) {
                corrupt(random.nextInt(n + 2) - 1);
            }
        }

        String name(String call) {
            calls++;
            return "seed " + seed + ", call " + calls + ", " + call;
        }

        int quota(int v, int parent, int k) {
            int want = model.quota(v, parent, k);
            answers.due(name("quota"), s.quota(v, parent, k), want);
            return want;
        }

        void member(int q, int w) {
            answers.due(name("member"), s.member(q, w), model.member(q, w));
        }

        void corrupt(int v) {
            answers.due(name("corrupt"), s.corrupt(v), model.corrupt(v));
        }

        void propose(int v, int c, int x) {
            answers.due(name("propose"), s.propose(v, c, x), model.propose(v, c, x));
        }

        void deliver(int v, int w) {
            answers.due(name("deliver"), s.deliver(v, w), model.deliver(v, w));
        }

        void say(int v, int w, int votes, int accepts) {
            answers.due(name("say"), s.say(v, w, votes, accepts), model.say(v, w, votes, accepts));
        }

        void askOfNode(int v) {
            Model.Node node = model.nodes[v];
            answers.due(name("voted"), s.voted(v), Model.bits(node.voted));
            answers.due(name("accepted"), s.accepted(v), Model.bits(node.accepted));
            answers.due(name("confirmed"), s.confirmed(v), Model.bits(node.confirmed));
            if (random.nextInt(4) == 0) {
                answers.due(name("counter"), s.counter(v), node.counter);
                answers.due(name("value"), s.value(v), node.value);
                answers.due(name("decided"), s.decided(v), node.decision);
            }
        }

        void askOfKnown(int v) {
            int w = random.nextInt(n);
            answers.due(name("known"), s.known(v, w, false), Model.bits(model.votesKnown(v, w)));
            answers.due(name("known"), s.known(v, w, true), Model.bits(model.acceptsKnown(v, w)));
        }

        void askOfSets(int times) {
            for (int i = 0; i < times; i++) {
                int set = random.nextInt(1 << n);
                int v = random.nextInt(n);
                int w = random.nextInt(n);
                answers.due(name("quorum"), s.quorum(set), model.quorum(set));
                answers.due(name("largest"), s.largest(set), model.largest(set));
                answers.due(name("blocks"), s.blocks(set, v), model.blocks(set, v));
                answers.due(name("intertwined"), s.intertwined(v, w), model.intertwined(v, w));
            }
        }
    }

    private static final class Model {
        static final class Node {
            final TreeSet<Integer> voted = new TreeSet<>();
            final TreeSet<Integer> accepted = new TreeSet<>();
            final TreeSet<Integer> confirmed = new TreeSet<>();
            final List<TreeSet<Integer>> heardVotes = new ArrayList<>();
            final List<TreeSet<Integer>> heardAccepts = new ArrayList<>();
            int counter = 0;
            int value = 0;
            int decision = -1;
            boolean ill = false;
        }

        static final class Quota {
            int owner;
            int parent;
            int k;
            final TreeSet<Integer> members = new TreeSet<>();
        }

        final int n;
        final Node[] nodes;
        final List<Quota> quotas = new ArrayList<>();
        boolean moves = false;
        int votesLeft = 0;
        boolean[] quorums = null;

        Model(int n) {
            this.n = n;
            nodes = new Node[n];
            for (int v = 0; v < n; v++) {
                nodes[v] = new Node();
                for (int w = 0; w < n; w++) {
                    nodes[v].heardVotes.add(new TreeSet<>());
                    nodes[v].heardAccepts.add(new TreeSet<>());
                }
            }
        }

        static int bits(TreeSet<Integer> set) {
            int bits = 0;
            for (int e : set) {
                bits += 1 << e;
            }
            return bits;
        }

        static TreeSet<Integer> statements(int bits) {
            TreeSet<Integer> set = new TreeSet<>();
            for (int s = 0; s < 24; s++) {
                if ((bits & 1 << s) != 0) {
                    set.add(s);
                }
            }
            return set;
        }

        boolean node(int v) {
            return 0 <= v && v < n;
        }

        boolean well(int v) {
            return node(v) && !nodes[v].ill;
        }

        int topOf(int v) {
            for (int q = 0; q < quotas.size(); q++) {
                if (quotas.get(q).owner == v && quotas.get(q).parent == -1) {
                    return q;
                }
            }
            return -1;
        }

        int level(int q) {
            return quotas.get(q).parent == -1 ? 1 : 1 + level(quotas.get(q).parent);
        }

        int quota(int v, int parent, int k) {
            if (moves || !node(v) || k < 1 || k > 9) {
                return -1;
            }
            if (quotas.stream().filter(q -> q.owner == v).count() == 4) {
                return -1;
            }
            if (parent == -1 && topOf(v) != -1) {
                return -1;
            }
            if (parent != -1) {
                if (parent < 0 || parent >= quotas.size() || quotas.get(parent).owner != v || level(parent) == 3) {
                    return -1;
                }
            }
            Quota q = new Quota();
            q.owner = v;
            q.parent = parent;
            q.k = k;
            quotas.add(q);
            quorums = null;
            return quotas.size() - 1;
        }

        boolean member(int q, int w) {
            if (moves || q < 0 || q >= quotas.size() || !node(w)) {
                return false;
            }
            quorums = null;
            return quotas.get(q).members.add(w);
        }

        boolean corrupt(int v) {
            if (!well(v)) {
                return false;
            }
            nodes[v].ill = true;
            return true;
        }

        boolean meets(int set, int q) {
            int count = 0;
            for (int w : quotas.get(q).members) {
                count += set >> w & 1;
            }
            for (int i = 0; i < quotas.size(); i++) {
                if (quotas.get(i).parent == q && meets(set, i)) {
                    count++;
                }
            }
            return count >= quotas.get(q).k;
        }

        boolean quorum(int set) {
            if (quorums == null) {
                quorums = new boolean[1 << n];
                for (int i = 1; i < 1 << n; i++) {
                    boolean all = true;
                    for (int v = 0; v < n; v++) {
                        if ((i >> v & 1) != 0) {
                            all &= topOf(v) != -1 && meets(i, topOf(v));
                        }
                    }
                    quorums[i] = all;
                }
            }
            return quorums[set];
        }

        int largest(int set) {
            int union = 0;
            for (int i = 1; i < 1 << n; i++) {
                if ((i & set) == i && quorum(i)) {
                    union |= i;
                }
            }
            return union;
        }

        boolean blocks(int set, int v) {
            int others = 0;
            for (int w = 0; w < n; w++) {
                if ((set >> w & 1) == 0) {
                    others += 1 << w;
                }
            }
            return topOf(v) != -1 && !meets(others, topOf(v));
        }

        boolean intertwined(int v, int w) {
            if (!well(v) || !well(w)) {
                return false;
            }
            for (int a = 0; a < 1 << n; a++) {
                for (int b = 0; b < 1 << n; b++) {
                    if (quorum(a) && quorum(b) && (a >> v & 1) == 1 && (b >> w & 1) == 1) {
                        boolean common = false;
                        for (int u = 0; u < n; u++) {
                            common |= (a >> u & 1) == 1 && (b >> u & 1) == 1 && well(u);
                        }
                        if (!common) {
                            return false;
                        }
                    }
                }
            }
            return true;
        }

        TreeSet<Integer> votesKnown(int v, int w) {
            return v == w ? nodes[v].voted : nodes[v].heardVotes.get(w);
        }

        TreeSet<Integer> acceptsKnown(int v, int w) {
            return v == w ? nodes[v].accepted : nodes[v].heardAccepts.get(w);
        }

        static boolean contradict(int s, int t) {
            if (s >= 12 && t >= 12) {
                return (s - 12) % 3 != (t - 12) % 3;
            }
            if (s >= 12) {
                return t > s - 12 && t % 3 != (s - 12) % 3;
            }
            return t >= 12 && contradict(t, s);
        }

        static boolean contradictsNone(int s, TreeSet<Integer> set) {
            for (int t : set) {
                if (contradict(s, t)) {
                    return false;
                }
            }
            return true;
        }

        boolean mayVote(Node node, int s) {
            return contradictsNone(s, node.voted) && contradictsNone(s, node.accepted);
        }

        boolean quorumWith(int v, int among) {
            for (int set = 1; set < 1 << n; set++) {
                if ((set & among) == set && (set >> v & 1) == 1 && quorum(set)) {
                    return true;
                }
            }
            return false;
        }

        boolean accepts(int v, int s) {
            if (nodes[v].accepted.contains(s) || !contradictsNone(s, nodes[v].accepted)) {
                return false;
            }
            int either = 0;
            int blocking = 0;
            for (int w = 0; w < n; w++) {
                if (votesKnown(v, w).contains(s) || acceptsKnown(v, w).contains(s)) {
                    either += 1 << w;
                }
                if (w != v && acceptsKnown(v, w).contains(s)) {
                    blocking += 1 << w;
                }
            }
            return quorumWith(v, either) || blocks(blocking, v);
        }

        boolean confirms(int v, int s) {
            if (!nodes[v].accepted.contains(s) || nodes[v].confirmed.contains(s)) {
                return false;
            }
            int accepting = 0;
            for (int w = 0; w < n; w++) {
                if (acceptsKnown(v, w).contains(s)) {
                    accepting += 1 << w;
                }
            }
            return quorumWith(v, accepting);
        }

        boolean step(int v) {
            Node node = nodes[v];
            for (int s = 0; s < 24; s++) {
                if (accepts(v, s)) {
                    return node.accepted.add(s);
                }
            }
            for (int s = 0; s < 24; s++) {
                if (confirms(v, s)) {
                    if (s >= 12 && node.confirmed.tailSet(12).isEmpty()) {
                        node.decision = (s - 12) % 3;
                    }
                    return node.confirmed.add(s);
                }
            }
            int ballot = 3 * (node.counter - 1) + node.value;
            if (node.counter == 0 || node.voted.contains(12 + ballot) || !node.confirmed.contains(ballot)) {
                return false;
            }
            if (!mayVote(node, 12 + ballot)) {
                votesLeft++;
                return false;
            }
            return node.voted.add(12 + ballot);
        }

        void settle(int v) {
            moves = true;
            boolean possible = true;
            while (possible) {
                possible = step(v);
            }
        }

        int propose(int v, int c, int x) {
            if (!well(v) || c < 1 || c > 4 || c <= nodes[v].counter || x < 0 || x > 2) {
                return -1;
            }
            Node node = nodes[v];
            node.value = x;
            if (!node.confirmed.headSet(12).isEmpty()) {
                node.value = node.confirmed.headSet(12).last() % 3;
            }
            if (!node.accepted.tailSet(12).isEmpty()) {
                node.value = (node.accepted.tailSet(12).first() - 12) % 3;
            }
            node.counter = c;
            for (int i = 1; i <= c; i++) {
                int prepare = 3 * (i - 1) + node.value;
                if (mayVote(node, prepare)) {
                    node.voted.add(prepare);
                } else {
                    votesLeft++;
                }
            }
            settle(v);
            return node.value;
        }

        boolean deliver(int v, int w) {
            if (!well(v) || !well(w) || v == w) {
                return false;
            }
            nodes[w].heardVotes.set(v, new TreeSet<>(nodes[v].voted));
            nodes[w].heardAccepts.set(v, new TreeSet<>(nodes[v].accepted));
            settle(w);
            return true;
        }

        boolean say(int v, int w, int votes, int accepts) {
            if (!node(v) || well(v) || !well(w)) {
                return false;
            }
            nodes[w].heardVotes.set(v, statements(votes));
            nodes[w].heardAccepts.set(v, statements(accepts));
            settle(w);
            return true;
        }
    }
}
