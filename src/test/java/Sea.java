/**
 * A CellCurrents that counts its calls: what it answers after the 512th is free, so no test may
 * lean on that.
 */
final class Sea {
    private static final int MOST_CALLS = 512;

    private final CellCurrents currents;
    private int calls;

    Sea(int x, int y, int layers) {
        currents = new CellCurrents(x, y, layers);
    }

    /** One row of cells of these depths, side by side along axis 0. */
    static Sea row(double... depths) {
        Sea sea = new Sea(depths.length, 1, 1);
        for (int i = 0; i < depths.length; i++) {
            sea.depth(i, 0, depths[i]);
        }
        return sea;
    }

    /** As row(), along axis 1. */
    static Sea column(double... depths) {
        Sea sea = new Sea(1, depths.length, 1);
        for (int j = 0; j < depths.length; j++) {
            sea.depth(0, j, depths[j]);
        }
        return sea;
    }

    /** x by y cells of one depth. */
    static Sea even(int x, int y, double depth) {
        Sea sea = new Sea(x, y, 1);
        for (int k = 0; k < x * y; k++) {
            sea.depth(k % x, k / x, depth);
        }
        return sea;
    }

    int calls() {
        return calls;
    }

    private CellCurrents next() {
        calls++;
        if (calls > MOST_CALLS) {
            throw new IllegalStateException("a test has made more than 512 calls of one object");
        }
        return currents;
    }

    /** Both limbs of the volume: two calls. */
    long volume() {
        return volume(1) << 32 | volume(0);
    }

    /** Both limbs of what came in over a side: two calls. */
    long through(int side) {
        return through(side, 1) << 32 | through(side, 0);
    }

    boolean depth(int i, int j, double metres) {
        return next().depth(i, j, metres);
    }

    boolean border(int side, int wave, double size, double phase) {
        return next().border(side, wave, size, phase);
    }

    boolean wind(int hour, double u, double v) {
        return next().wind(hour, u, v);
    }

    boolean river(int i, int j, double rate) {
        return next().river(i, j, rate);
    }

    int run(int steps, double h) {
        return next().run(steps, h);
    }

    double level(int i, int j) {
        return next().level(i, j);
    }

    double speed(int i, int j, int layer, int axis) {
        return next().speed(i, j, layer, axis);
    }

    long volume(int limb) {
        return next().volume(limb);
    }

    long through(int side, int limb) {
        return next().through(side, limb);
    }

    boolean kept() {
        return next().kept();
    }

    double warm(int i, int j, int layer) {
        return next().warm(i, j, layer);
    }

    double salt(int i, int j, int layer) {
        return next().salt(i, j, layer);
    }

    boolean dry(int i, int j) {
        return next().dry(i, j);
    }

    int nest(int i, int j, int n) {
        return next().nest(i, j, n);
    }

    boolean equal(int nest) {
        return next().equal(nest);
    }

    int fit(int waves) {
        return next().fit(waves);
    }

    boolean gauge(int i, int j, double hour, double v) {
        return next().gauge(i, j, hour, v);
    }

    double tide(double hour) {
        return next().tide(hour);
    }

    int save() {
        return next().save();
    }

    boolean back(int saved) {
        return next().back(saved);
    }

    double ice(int i, int j) {
        return next().ice(i, j);
    }

    double mud(int i, int j) {
        return next().mud(i, j);
    }

    double differs(int i, int j) {
        return next().differs(i, j);
    }
}
