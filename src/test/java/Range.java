import java.util.Arrays;
import java.util.stream.LongStream;

/** A range that the document gives an argument: the values at its edges, and values on both sides of it. */
final class Range {
    private final long least;
    private final long most;

    Range(long least, long most) {
        this.least = least;
        this.most = most;
    }

    /** The last values inside, and their neighbours inside. */
    long[] inside() {
        return LongStream.of(least, most, least + 1, most - 1).filter(this::has).distinct().toArray();
    }

    /** The first values outside, and the ones far off, the ends of long and what a cast to an int would lead inside. */
    long[] outside() {
        long turn = 1L << 32;
        return LongStream.of(least - 1, most + 1, least - 2, most + 2,
            Integer.MIN_VALUE, Integer.MAX_VALUE, Integer.MIN_VALUE - 1L, Integer.MAX_VALUE + 1L,
            least + turn, most + turn, least - turn, most - turn,
            Long.MIN_VALUE, Long.MAX_VALUE, Long.MIN_VALUE + 1, Long.MAX_VALUE - 1,
            Long.MIN_VALUE + most, Long.MAX_VALUE - most).filter(v -> !has(v)).distinct().toArray();
    }

    int[] insideInts() {
        return Arrays.stream(inside()).mapToInt(v -> (int) v).toArray();
    }

    /** As outside(), for an argument of the type int: what a cast to a byte or a short would lead inside. */
    int[] outsideInts() {
        return LongStream.of(least - 1, most + 1, least - 2, most + 2, -most,
            Integer.MIN_VALUE, Integer.MAX_VALUE, Integer.MIN_VALUE + 1L, Integer.MAX_VALUE - 1L,
            Integer.MIN_VALUE + least, Integer.MIN_VALUE + most,
            least + 256, most + 256, least - 256, least + 65536, most + 65536, most - 65536)
            .filter(v -> !has(v)).distinct().mapToInt(v -> (int) v).toArray();
    }

    private boolean has(long value) {
        return value >= least && value <= most;
    }
}
