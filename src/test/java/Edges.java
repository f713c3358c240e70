import java.util.Arrays;
import java.util.stream.IntStream;

/** Whole numbers about the bounds of an argument. */
final class Edges {
    private Edges() {
    }

    /** Just beyond the bounds, far beyond, and what would be inside if it were cut to 8 or 16 bits. */
    static int[] outside(int least, int greatest) {
        int[] tried = {
            Integer.MIN_VALUE, Integer.MIN_VALUE + 1, least - 65536, greatest - 65536, least - 256,
            least - 2, least - 1, greatest + 1, greatest + 2, greatest + 256, least + 65536,
            greatest + 65536, Integer.MAX_VALUE - 1, Integer.MAX_VALUE,
        };
        return IntStream.of(tried).filter(value -> value < least || value > greatest).distinct().toArray();
    }

    static int[] inside(int least, int greatest) {
        int[] tried = {least, least + 1, greatest - 1, greatest};
        return Arrays.stream(tried).filter(value -> value >= least && value <= greatest).distinct().toArray();
    }
}
