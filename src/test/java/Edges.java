/** Values at the edges of a range, on both sides of them, and far beyond. */
final class Edges {
    private Edges() {
    }

    /** Both ends, what is next to them inside, and 0.0 with a sign where 0.0 is an end. */
    static double[] within(double least, double most) {
        return new double[] {least, Math.nextUp(least), Math.nextDown(most), most,
            least == 0.0 ? -0.0 : least};
    }

    static double[] beyond(double least, double most) {
        return new double[] {Math.nextDown(least), Math.nextUp(most), least - 1.0, most + 1.0,
            -Double.MAX_VALUE, Double.MAX_VALUE, Double.NEGATIVE_INFINITY, Double.POSITIVE_INFINITY,
            Double.NaN};
    }

    /** Numbers just beyond and far beyond; those that a shift or a sum brings back are among them. */
    static int[] beyond(int least, int most) {
        return new int[] {least - 1, most + 1, least - 2, most + 2, least + (1 << 8), least + (1 << 16),
            Integer.MIN_VALUE, Integer.MIN_VALUE + most, Integer.MAX_VALUE};
    }
}
