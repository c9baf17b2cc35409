import java.util.Arrays;
import java.util.Random;

/**
 * Calls with any arguments, drawn from fixed seeds: none throws, not even beyond the calls that an
 * object is good for; and up to there, what the document says of a node at all times holds.
 */
final class WildCallsTest {
    private static final int RUNS = 2000;
    private static final int GOOD_CALLS = 512;
    private static final int CALLS_BEYOND = 200;
    private static final Answers answers = new Answers();
    private static int decisions = 0;

    public static void main(String[] args) {
        for (int seed = 0; seed < RUNS; seed++) {
            try {
                new Run(seed).all();
            } catch (RuntimeException | StackOverflowError e) {
                answers.due("seed " + seed + " throws " + e, true, false);
            }
        }
        System.out.println(decisions + " decisions");
        answers.due("runs reach decisions", decisions > 500, true);
        answers.end();
    }

    private static final class Run {
        final String name;
        final Random random;
        final int n;
        final SliceVoting s;
        final int favourite;
        final int[] voted = new int[6];
        final int[] accepted = new int[6];
        final int[] confirmed = new int[6];
        final int[] counter = new int[6];
        final int[] decided = new int[6];
        int calls = 0;

        Run(int seed) {
            name = "seed " + seed + ", ";
            random = new Random(seed);
            int given = any(8);
            n = Math.max(1, Math.min(6, given));
            s = new SliceVoting(given);
            favourite = random.nextInt(3);
            Arrays.fill(decided, SliceVoting.NONE);
        }

        void all() {
            if (random.nextBoolean()) {
                trustMany();
            }
            int building = random.nextInt(60);
            for (int i = 0; i < building; i++) {
                build();
                calls++;
            }
            while (calls + 3 + n * n + 6 * n <= GOOD_CALLS) {
                move();
                if (random.nextInt(8) == 0) {
                    hearAll();
                }
                ask();
                calls += 2;
                if (random.nextInt(3) == 0) {
                    look();
                }
            }
            for (int v = 0; v < n; v++) {
                decisions += decided[v] == SliceVoting.NONE ? 0 : 1;
            }
            for (int i = 0; i < CALLS_BEYOND; i++) {
                build();
                move();
                ask();
            }
        }

        /** Quotas drawn at random would seldom make a quorum. */
        void trustMany() {
            int need = 1 + random.nextInt(n);
            for (int v = 0; v < n; v++) {
                int q = s.quota(v, SliceVoting.NONE, need);
                for (int w = 0; w < n; w++) {
                    s.member(q, w);
                }
            }
            calls += n * (n + 1);
        }

        void hearAll() {
            for (int v = 0; v < n; v++) {
                for (int w = 0; w < n; w++) {
                    s.deliver(v, w);
                }
            }
            calls += n * n;
        }

        /** Mostly from -1 to most, sometimes any int at all. */
        int any(int most) {
            switch (random.nextInt(24)) {
                case 0: return random.nextInt();
                case 1: return Integer.MIN_VALUE + random.nextInt(3);
                case 2: return Integer.MAX_VALUE - random.nextInt(3);
                case 3: return 32 * (1 + random.nextInt(3)) + random.nextInt(most + 1);
                default: return random.nextInt(most + 2) - 1;
            }
        }

        void build() {
            switch (random.nextInt(12)) {
                case 0: case 1: case 2:
                    s.quota(any(n), any(24), any(10));
                    break;
                case 3: case 4:
                    s.quota(any(n), SliceVoting.NONE, any(4));
                    break;
                case 5:
                    s.corrupt(random.nextInt(8) == 0 ? any(n) : -1);
                    break;
                default:
                    s.member(any(24), any(n));
                    break;
            }
        }

        void move() {
            switch (random.nextInt(8)) {
                case 0:
                    s.propose(any(n), any(5), any(3));
                    break;
                case 1:
                    s.propose(random.nextInt(n), s.counter(0) + random.nextInt(2), favourite);
                    calls++;
                    break;
                case 2: case 3:
                    s.say(any(n), any(n), random.nextInt(), random.nextInt() & random.nextInt());
                    break;
                case 4:
                    s.corrupt(random.nextInt(20) == 0 ? any(n) : -1);
                    break;
                default:
                    s.deliver(any(n), any(n));
                    break;
            }
        }

        void ask() {
            switch (random.nextInt(11)) {
                case 0: s.voted(any(n)); break;
                case 1: s.accepted(any(n)); break;
                case 2: s.confirmed(any(n)); break;
                case 3: s.counter(any(n)); break;
                case 4: s.value(any(n)); break;
                case 5: s.decided(any(n)); break;
                case 6: s.known(any(n), any(n), random.nextBoolean()); break;
                case 7: s.quorum(any(1 << n)); break;
                case 8: s.largest(any(1 << n)); break;
                case 9: s.blocks(any(1 << n), any(n)); break;
                default: s.intertwined(any(n), any(n)); break;
            }
        }

        void look() {
            for (int v = 0; v < n; v++) {
                lookAt(v, s.voted(v), s.accepted(v), s.confirmed(v));
                lookAtBallot(v, s.counter(v), s.value(v), s.decided(v));
                calls += 6;
            }
        }

        void lookAt(int v, int votes, int accepts, int confirms) {
            answers.due(name + "votes only grow", voted[v] & ~votes, 0);
            answers.due(name + "accepted statements only grow", accepted[v] & ~accepts, 0);
            answers.due(name + "confirmed statements only grow", confirmed[v] & ~confirms, 0);
            answers.due(name + "there are 24 statements", (votes | accepts | confirms) >>> 24, 0);
            answers.due(name + "what is confirmed is accepted", confirms & ~accepts, 0);
            answers.due(name + "votes contradict", hasContradiction(votes), false);
            answers.due(name + "accepted statements contradict", hasContradiction(accepts), false);
            voted[v] = votes;
            accepted[v] = accepts;
            confirmed[v] = confirms;
        }

        void lookAtBallot(int v, int c, int x, int decision) {
            answers.due(name + "the counter goes up", c >= counter[v] && c <= 4, true);
            answers.due(name + "the value is one", x >= 0 && x <= 2, true);
            answers.due(name + "a decision stays", decided[v] == SliceVoting.NONE || decided[v] == decision, true);
            int commits = confirmed[v] >>> 12;
            int due = commits == 0 ? SliceVoting.NONE : Integer.numberOfTrailingZeros(commits) % 3;
            answers.due(name + "the decision is the value of what is confirmed", decision, due);
            counter[v] = c;
            decided[v] = decision;
        }

        private static boolean hasContradiction(int set) {
            for (int a = 0; a < 12; a++) {
                for (int b = 0; b < 12; b++) {
                    boolean commitA = (set >> 12 + a & 1) != 0;
                    boolean commitB = (set >> 12 + b & 1) != 0;
                    boolean prepareB = (set >> b & 1) != 0;
                    if (commitA && a % 3 != b % 3 && (commitB || prepareB && b > a)) {
                        return true;
                    }
                }
            }
            return false;
        }
    }
}
