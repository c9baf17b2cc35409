import java.util.function.Predicate;
import java.util.function.Supplier;
import java.util.function.ToIntFunction;

/**
 * Sees that a call is refused, and that afterwards the object goes on as its twin does, on which the
 * call was not made: also what no call shows at once, such as whether the network moves, is compared.
 * The objects have three nodes.
 */
final class Refusals {
    private static final int NODES = 3;
    private final Answers answers;

    Refusals(Answers answers) {
        this.answers = answers;
    }

    void none(String call, Supplier<SliceVoting> past, ToIntFunction<SliceVoting> refused) {
        SliceVoting s = past.get();
        answers.due(call, refused.applyAsInt(s), SliceVoting.NONE);
        goesOnAsItsTwin(call, s, past.get());
    }

    void no(String call, Supplier<SliceVoting> past, Predicate<SliceVoting> refused) {
        SliceVoting s = past.get();
        answers.due(call, refused.test(s), false);
        goesOnAsItsTwin(call, s, past.get());
    }

    private void goesOnAsItsTwin(String call, SliceVoting s, SliceVoting twin) {
        answers.due(call + ": all that is seen is as before",
            Answers.picture(s, NODES).equals(Answers.picture(twin, NODES)), true);
        answers.due(call + ": all goes on as without it", goOn(s).equals(goOn(twin)), true);
    }

    /** Some 260 calls of every kind, and their answers. */
    private static String goOn(SliceVoting s) {
        StringBuilder text = new StringBuilder();
        goOnBuilding(s, text);
        text.append(Answers.picture(s, NODES));
        goOnVoting(s, text);
        text.append(Answers.picture(s, NODES));
        return text.toString();
    }

    /**
     * Every node gets as many quotas as it may still have, so that it shows how many it had. (Where
     * node v has a top quota in a past, that is quota v.)
     */
    private static void goOnBuilding(SliceVoting s, StringBuilder text) {
        for (int v = 0; v < NODES; v++) {
            int added = s.quota(v, SliceVoting.NONE, 1);
            text.append(added).append(' ');
            int top = added == SliceVoting.NONE ? v : added;
            for (int i = 0; i < 4; i++) {
                text.append(s.quota(v, top, 2)).append(' ');
            }
        }
        for (int q = 0; q < 12; q++) {
            for (int w = 0; w < NODES; w++) {
                text.append(s.member(q, w)).append(' ');
            }
        }
    }

    private static void goOnVoting(SliceVoting s, StringBuilder text) {
        for (int c = 1; c <= 4; c++) {
            for (int v = 0; v < NODES; v++) {
                text.append(s.propose(v, c, (v + c) % 3)).append(' ');
                text.append(s.deliver(v, (v + c) % NODES)).append(' ');
            }
        }
        text.append(s.corrupt(2)).append(' ').append(s.say(2, 0, 0x123456, 0x654321)).append(' ');
        for (int v = 0; v < NODES; v++) {
            for (int w = 0; w < NODES; w++) {
                text.append(s.deliver(v, w)).append(' ');
            }
        }
    }
}
