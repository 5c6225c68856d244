/** Long runs of calls, the same in every session, on the class and on the Model side by side. */
public final class ModelTests {
    private static long seed;

    public static void main(String[] args) {
        for (int run = 0; run < 120; run++) {
            seed = 1000 + run;
            run(run);
        }
        Check.end();
    }

    private static int pick(int below) {
        seed = seed * 6364136223846793005L + 1442695040888963407L;
        return (int) ((seed >>> 33) % below);
    }

    private static double part(double most) {
        return most * pick(1000001) / 1000000;
    }

    private static void run(int run) {
        int x = 1 + pick(run % 3 == 0 ? 12 : 4);
        int y = 1 + pick(run % 3 == 0 ? 12 : 4);
        int layers = 1 + pick(4);
        CellCurrents sea = new CellCurrents(x, y, layers);
        Model model = new Model(x, y, layers);
        for (int i = 0; i < x; i++) {
            for (int j = 0; j < y; j++) {
                if (pick(6) > 0) {
                    tellDepth(sea, model, i, j);
                }
            }
        }
        for (int call = 0; call < 120; call++) {
            change(sea, model, run + "." + call + " ");
            look(sea, model, run + "." + call + " ");
        }
    }

    private static void tellDepth(CellCurrents sea, Model model, int i, int j) {
        double[] depths = {part(20.0), part(0.3), part(1000.0), 0.0, 10.0};
        double metres = depths[pick(5)];
        Check.yes("2 depth", sea.depth(i, j, metres));
        model.tellDepth(i, j, metres);
    }

    private static void change(CellCurrents sea, Model model, String name) {
        int i = pick(model.x);
        int j = pick(model.y);
        switch (pick(16)) {
            case 0:
                if (pick(4) == 0) {
                    tellDepth(sea, model, i, j);
                }
                break;
            case 1:
                tellBorder(sea, model, name);
                break;
            case 2: case 3:
                tellWind(sea, model, name);
                break;
            case 4:
                double rate = pick(3) == 0 ? 0.0 : part(1000.0);
                Check.same(name + "5 river", sea.river(i, j, rate) ? 1 : 0, model.water[i][j] ? 1 : 0);
                model.river[i][j] = model.water[i][j] ? rate : model.river[i][j];
                break;
            case 5:
                int n = 2 + pick(7);
                int due = model.water[i][j] ? model.part(i, j, n) : -1;
                Check.same(name + "15 nest", sea.nest(i, j, n), due);
                break;
            case 6:
                if (pick(4) == 0) {
                    Check.same(name + "20 save", sea.save(), model.save());
                }
                break;
            case 7:
                int saved = pick(4);
                Check.same(name + "21 back", sea.back(saved) ? 1 : 0, model.back(saved) ? 1 : 0);
                break;
            case 8: case 9:
                tellGauge(sea, model, name, i, j);
                break;
            case 10:
                int waves = pick(3);
                Check.same(name + "17 fit", sea.fit(waves), model.fit(waves));
                break;
            default:
                runBoth(sea, model, name);
        }
    }

    private static void tellBorder(CellCurrents sea, Model model, String name) {
        int side = pick(4);
        int wave = pick(8);
        double size = part(pick(4) == 0 ? 20.0 : 2.0);
        double phase = part(1.0);
        Check.yes(name + "3 border", sea.border(side, wave, size, phase));
        model.waveTold[side][wave] = true;
        model.waveSize[side][wave] = size;
        model.wavePhase[side][wave] = phase;
    }

    private static void tellWind(CellCurrents sea, Model model, String name) {
        int hour = pick(24);
        double u = part(200.0) - 100.0;
        double v = part(200.0) - 100.0;
        Check.yes(name + "4 wind", sea.wind(hour, u, v));
        model.wind[0][hour] = u;
        model.wind[1][hour] = v;
    }

    private static void tellGauge(CellCurrents sea, Model model, String name, int i, int j) {
        double hour = pick(2) == 0 ? pick(4000) / 4.0 : part(1000.0);
        double level = part(200.0) - 100.0;
        boolean room = model.gauges.size() < 40;
        Check.same(name + "18 gauge", sea.gauge(i, j, hour, level) ? 1 : 0, room ? 1 : 0);
        if (room) {
            model.gauges.add(new double[] {hour, level});
            model.gauged[i][j] = true;
            model.gauge[i][j] = level;
        }
    }

    private static void runBoth(CellCurrents sea, Model model, String name) {
        int steps = pick(20);
        double h = pick(4) == 0 ? 600.0 : 1.0 + part(599.0);
        Check.same(name + "6 run", sea.run(steps, h), steps);
        for (int n = 0; n < steps; n++) {
            model.step(h);
        }
    }

    private static void look(CellCurrents sea, Model model, String name) {
        for (int i = 0; i < model.x; i++) {
            for (int j = 0; j < model.y; j++) {
                lookAtCell(sea, model, name + "at " + i + ", " + j + ": ", i, j);
            }
        }
        long all = model.all();
        Check.same(name + "9 low", sea.volume(0), all & 0xFFFFFFFFL);
        Check.same(name + "9 high", sea.volume(1), all >> 32);
        for (int side = 0; side < 4; side++) {
            Check.same(name + "10 low", sea.through(side, 0), model.through[side] & 0xFFFFFFFFL);
            Check.same(name + "10 high", sea.through(side, 1), model.through[side] >> 32);
        }
        for (int nest = 0; nest < 11; nest++) {
            boolean there = nest < model.nests.size() && model.nests.get(nest) != null;
            Check.same(name + "16 equal", sea.equal(nest) ? 1 : 0, there ? 1 : 0);
        }
        Check.yes(name + "11 kept", sea.kept());
        double hour = part(1000.0);
        Check.same(name + "19 tide", sea.tide(hour), model.tide(hour));
    }

    private static void lookAtCell(CellCurrents sea, Model model, String name, int i, int j) {
        int layer = pick(model.layers);
        boolean water = model.water[i][j];
        double level = model.level(i, j);
        Check.same(name + "7 level", sea.level(i, j), water ? level : -1.0e6);
        Check.same(name + "12 warm", sea.warm(i, j, layer), water ? model.warmth[i][j] - 0.5 * layer : -1.0e6);
        Check.same(name + "13 salt", sea.salt(i, j, layer), water ? model.salt[i][j] + 0.1 * layer : -1.0e6);
        Check.same(name + "23 mud", sea.mud(i, j), water ? model.mud[i][j] : 0.0);
        Check.same(name + "14 dry", sea.dry(i, j) ? 1 : 0, model.volume[i][j] < 50 ? 1 : 0);
        Check.same(name + "8 axis 0", sea.speed(i, j, layer, 0), model.speedBehind(i, j, layer, 0));
        Check.same(name + "8 axis 1", sea.speed(i, j, layer, 1), model.speedBehind(i, j, layer, 1));
        Check.same(name + "22 ice", sea.ice(i, j), 0.0);
        double differs = water && model.gauged[i][j] ? model.gauge[i][j] - level : 0.0;
        Check.same(name + "24 differs", sea.differs(i, j), differs);
    }
}
