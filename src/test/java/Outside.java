/** Numbers outside a range: next to it, far from it, and some that would be in it if they were cut to a byte or a short. */
final class Outside {
    static final int[] STREETS = of(0, 7);
    static final int[] ESCORTS = of(0, 3);
    static final int[] VOTERS = of(0, 2);

    private Outside() {
    }

    static int[] of(int least, int most) {
        return new int[] {
            least - 1, least - 2, most + 1, most + 2, least - (1 << 8), least + (1 << 16),
            Integer.MIN_VALUE, Integer.MIN_VALUE + most, Integer.MAX_VALUE
        };
    }
}
