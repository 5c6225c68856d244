/**
 * Long runs of calls, the same in every session, on the class and on the Model side by side: all
 * calls of the face, with values of every kind, many of them at the edges of their ranges or beyond.
 * No object is asked more than 512 calls.
 */
public final class ModelTests {
    private static final int CALLS = 512;
    private static long seed;
    /** One of so many places is none; one of so many values lies at an edge of its range. */
    private static int wild;

    public static void main(String[] args) {
        for (int run = 0; run < 1500; run++) {
            seed = 1000 + run;
            wild = run % 4 == 0 ? 3 : run % 4 == 1 ? 8 : 40;
            run(run);
        }
        Check.end();
    }

    // ---- what is picked

    private static int pick(int below) {
        seed = seed * 6364136223846793005L + 1442695040888963407L;
        return (int) ((seed >>> 33) % below);
    }

    private static int whole(int least, int most) {
        if (pick(wild) > 0) {
            return least + pick(most - least + 1);
        }
        int[] edges = {least, most, least - 1, most + 1, Integer.MIN_VALUE, Integer.MAX_VALUE};
        return edges[pick(edges.length)];
    }

    private static double real(double least, double most) {
        if (pick(wild) > 0) {
            return least + (most - least) * pick(1000001) / 1000000;
        }
        double[] edges = {least, most, Math.nextUp(least), Math.nextDown(most), Math.nextDown(least),
            Math.nextUp(most), -0.0, Double.NaN, Double.NEGATIVE_INFINITY, Double.POSITIVE_INFINITY};
        return edges[pick(edges.length)];
    }

    private static double metres() {
        double[] depths = {real(0.0, 20.0), real(0.0, 0.3), real(0.0, 1000.0), 0.0, 10.0, real(0.049, 0.051)};
        return depths[pick(depths.length)];
    }

    // ---- a run

    private static void run(int run) {
        int most = run % 5 == 0 ? 12 : run % 2 == 0 ? 2 : 4;
        int x = whole(1, most);
        int y = whole(1, most);
        int layers = whole(1, 4);
        Sea sea = new Sea(x, y, layers);
        Model model = new Model(x, y, layers);
        for (int k = 0; k < model.x * model.y; k++) {
            if (pick(6) > 0) {
                double metres = metres();
                same(run + ": 2 depth", sea.depth(k % model.x, k / model.x, metres),
                    model.depth(k % model.x, k / model.x, metres));
            }
        }
        while (sea.calls() < CALLS) {
            String name = run + "." + sea.calls() + ": ";
            if (pick(3) == 0) {
                tell(sea, model, name);
            } else {
                read(sea, model, name);
            }
        }
        Check.same(run + ": calls", sea.calls(), CALLS);
    }

    private static void same(String name, boolean got, boolean due) {
        Check.same(name, got ? 1 : 0, due ? 1 : 0);
    }

    private static void tell(Sea sea, Model model, String name) {
        int i = whole(0, model.x - 1);
        int j = whole(0, model.y - 1);
        switch (pick(14)) {
            case 0:
                // Rarely: a depth that is told makes all states that are kept useless.
                if (pick(4) == 0) {
                    double metres = metres();
                    same(name + "2 depth", sea.depth(i, j, metres), model.depth(i, j, metres));
                    break;
                }
                steps(sea, model, name);
                break;
            case 1:
                tellBorder(sea, model, name);
                break;
            case 2:
                int hour = pick(2) == 0 ? 0 : whole(0, 23);
                double u = real(-100.0, 100.0);
                double v = real(-100.0, 100.0);
                same(name + "4 wind", sea.wind(hour, u, v), model.wind(hour, u, v));
                break;
            case 3:
                double rate = pick(3) == 0 ? 0.0 : real(0.0, 1000.0);
                same(name + "5 river", sea.river(i, j, rate), model.river(i, j, rate));
                break;
            case 4:
                int n = whole(2, 8);
                Check.same(name + "15 nest", sea.nest(i, j, n), model.nest(i, j, n));
                break;
            case 5:
                Check.same(name + "20 save", sea.save(), model.save());
                break;
            case 6:
                int saved = whole(0, 3);
                same(name + "21 back", sea.back(saved), model.back(saved));
                break;
            case 7: case 8:
                double when = pick(2) == 0 ? pick(4001) / 4.0 : real(0.0, 1000.0);
                double level = real(-100.0, 100.0);
                same(name + "18 gauge", sea.gauge(i, j, when, level), model.gauge(i, j, when, level));
                break;
            case 9:
                int waves = whole(0, 2);
                Check.same(name + "17 fit", sea.fit(waves), model.fit(waves));
                break;
            default:
                steps(sea, model, name);
        }
    }

    private static void tellBorder(Sea sea, Model model, String name) {
        int side = whole(0, 3);
        int wave = whole(0, 7);
        double size = pick(4) == 0 ? real(0.0, 20.0) : real(0.0, 2.0);
        double phase = real(0.0, 1.0);
        same(name + "3 border", sea.border(side, wave, size, phase), model.border(side, wave, size, phase));
    }

    private static void steps(Sea sea, Model model, String name) {
        int steps = pick(wild) == 0 ? whole(0, 200) : pick(12);
        double h = pick(4) == 0 ? 600.0 : real(1.0, 600.0);
        Check.same(name + "6 run", sea.run(steps, h), model.run(steps, h));
    }

    private static void read(Sea sea, Model model, String name) {
        int i = whole(0, model.x - 1);
        int j = whole(0, model.y - 1);
        int layer = whole(0, model.layers - 1);
        int limb = whole(0, 1);
        switch (pick(15)) {
            case 0:
                Check.same(name + "7 level", sea.level(i, j), model.level(i, j));
                break;
            case 1: case 2:
                int axis = whole(0, 1);
                Check.same(name + "8 speed", sea.speed(i, j, layer, axis), model.speed(i, j, layer, axis));
                break;
            case 3:
                Check.same(name + "9 volume", sea.volume(limb), model.volume(limb));
                break;
            case 4:
                int side = whole(0, 3);
                Check.same(name + "10 through", sea.through(side, limb), model.through(side, limb));
                break;
            case 5:
                same(name + "11 kept", sea.kept(), model.kept());
                break;
            case 6: case 7:
                Check.same(name + "12 warm", sea.warm(i, j, layer), model.warm(i, j, layer));
                break;
            case 8:
                Check.same(name + "13 salt", sea.salt(i, j, layer), model.salt(i, j, layer));
                break;
            case 9:
                same(name + "14 dry", sea.dry(i, j), model.dry(i, j));
                break;
            case 10:
                int nest = whole(0, 9);
                same(name + "16 equal", sea.equal(nest), model.equal(nest));
                break;
            case 11:
                double hour = real(0.0, 1000.0);
                Check.same(name + "19 tide", sea.tide(hour), model.tide(hour));
                break;
            case 12:
                Check.same(name + "22 ice", sea.ice(i, j), model.ice(i, j));
                break;
            case 13:
                Check.same(name + "23 mud", sea.mud(i, j), model.mud(i, j));
                break;
            default:
                Check.same(name + "24 differs", sea.differs(i, j), model.differs(i, j));
        }
    }
}
