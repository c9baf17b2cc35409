import java.util.stream.IntStream;

/** Ints outside a range: those beside it, those that wrap around into it, the least and the greatest. */
final class Wrong {
    private Wrong() {
    }

    static int[] outside(int least, int most) {
        int[] near = {least - 2, least - 1, most + 1, most + 2};
        int[] far = {Integer.MIN_VALUE, Integer.MIN_VALUE + 1, Integer.MAX_VALUE - 1, Integer.MAX_VALUE,
            1 << 30, -(1 << 30), 0x55555556, 0x55555557, 24, 25, -24, -25};
        // What a shift, a byte, a short or a doubled bit takes for an int of the range.
        int[] turns = {32, 64, 256, 65536, 1 << 24, 1 << 30, 1 << 31};
        IntStream wrapped = IntStream.of(turns).flatMap(t ->
            IntStream.of(least + t, most + t, least - t, most - t));
        return IntStream.concat(IntStream.concat(IntStream.of(near), IntStream.of(far)), wrapped)
            .filter(i -> i < least || i > most).distinct().toArray();
    }

    static int[] nodes(int n) {
        return outside(0, n - 1);
    }

    /** Each set has a bit for which there is no node: alone, beside all nodes, or with the sign. */
    static int[] sets(int n) {
        int everyone = (1 << n) - 1;
        IntStream alone = IntStream.range(n, 32).map(bit -> 1 << bit);
        IntStream beside = IntStream.range(n, 32).map(bit -> 1 << bit | everyone);
        IntStream others = IntStream.of(-1, ~everyone, Integer.MAX_VALUE, Integer.MIN_VALUE, Integer.MIN_VALUE + 1);
        return IntStream.concat(IntStream.concat(alone, beside), others).distinct().toArray();
    }
}
