/** The numbers that stand beside a range of int: just outside it, a little way off, and at int's ends. */
final class Edges {
    private Edges() {
    }

    static int[] outside(int first, int last) {
        return new int[] {
            first - 1, first - 2, last + 1, last + 2, first + 256, first + 65536, -last - 1,
            Integer.MIN_VALUE, Integer.MIN_VALUE + 1, Integer.MAX_VALUE - 1, Integer.MAX_VALUE
        };
    }
}
