/** Lines of the document, written as it writes them. */
final class Lines {
    private Lines() {
    }

    static double level(long volume, double depth) {
        return volume * 0.001 - depth;
    }

    static double saw(double u) {
        double f = u - Math.floor(u);
        return f < 0.5 ? 1 - 4 * f : 4 * f - 3;
    }

    /** What a speed becomes in a step. */
    static double speed(double s, double h, double d, double w) {
        double size = s < 0 ? -s : s;
        return (s + h * (0.00981 * d + 0.00001 * w)) / (1 + 0.002 * h * size);
    }

    /** What a speed asks for, before any cell says how much it can give. */
    static long asked(double s, double h, long m) {
        return (long) (s * h * (m * 0.001));
    }
}
