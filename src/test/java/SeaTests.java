/** Promises 1 to 5, 7 and 14: what is told of a sea, and what of it can be read at once. */
public final class SeaTests {
    private static final double NOWHERE = -1.0e6;

    public static void main(String[] args) {
        aNewObjectIsAllLand();
        sizesAreCutToTheirRange();
        depthMakesWater();
        depthZeroMakesLand();
        depthTellsACellAnew();
        depthRefuses();
        depthStillsTheFacesOfItsCellAlone();
        borderRefusesAndOpens();
        borderWavesAddUp();
        windBlowsInItsHour();
        windRefuses();
        riverBringsParts();
        riverRefuses();
        riverOutlivesDepth();
        levelIsVolumeLessDepth();
        dryBelowFifty();
        Check.end();
    }

    private static void aNewObjectIsAllLand() {
        Sea sea = new Sea(3, 2, 2);
        for (int i = 0; i < 3; i++) {
            for (int j = 0; j < 2; j++) {
                Check.same("1 level of land", sea.level(i, j), NOWHERE);
                Check.yes("1 land is dry", sea.dry(i, j));
                Check.same("1 warm of land", sea.warm(i, j, 0), NOWHERE);
            }
        }
        Check.same("1 no volume", sea.volume(0), 0);
        Check.yes("1 kept", sea.kept());
    }

    private static void sizesAreCutToTheirRange() {
        sizes(1, 1, 1, 1, 1, 1);
        sizes(0, -1, 0, 1, 1, 1);
        sizes(Integer.MIN_VALUE, Integer.MIN_VALUE, Integer.MIN_VALUE, 1, 1, 1);
        sizes(12, 12, 4, 12, 12, 4);
        sizes(13, 12, 5, 12, 12, 4);
        sizes(Integer.MAX_VALUE, Integer.MAX_VALUE, Integer.MAX_VALUE, 12, 12, 4);
        sizes(2, 13, 3, 2, 12, 3);
        sizes(5, 3, 2, 5, 3, 2);
    }

    private static void sizes(int x, int y, int layers, int dueX, int dueY, int dueLayers) {
        Sea sea = new Sea(x, y, layers);
        String name = "1 of " + x + ", " + y + ", " + layers + ": ";
        Check.yes(name + "last cell", sea.depth(dueX - 1, dueY - 1, 2.0));
        Check.yes(name + "first cell", sea.depth(0, 0, 2.0));
        Check.no(name + "beyond x", sea.depth(dueX, dueY - 1, 2.0));
        Check.no(name + "beyond y", sea.depth(dueX - 1, dueY, 2.0));
        Check.same(name + "last layer", sea.warm(0, 0, dueLayers - 1), 10.0 - 0.5 * (dueLayers - 1));
        Check.same(name + "beyond layers", sea.warm(0, 0, dueLayers), NOWHERE);
    }

    private static void depthMakesWater() {
        Sea sea = new Sea(2, 2, 1);
        Check.yes("2 depth", sea.depth(1, 0, 12.3456));
        Check.same("2 volume is cut", sea.volume(0), 12345);
        Check.same("2 level", sea.level(1, 0), 12345 * 0.001 - 12.3456);
        Check.same("2 warmth", sea.warm(1, 0, 0), 10.0);
        Check.same("2 salt", sea.salt(1, 0, 0), 35.0);
        Check.same("2 mud", sea.mud(1, 0), 0.0);
        Check.same("2 other cell of the row", sea.level(0, 0), NOWHERE);
        Check.same("2 i and j are not mixed up", sea.level(0, 1), NOWHERE);
        Check.yes("2 deepest", sea.depth(0, 1, 1000.0));
        Check.same("2 volumes together", sea.volume(0), 1012345);
        Check.yes("2 shallower than a part", sea.depth(1, 1, 0.0005));
        Check.same("2 no volume, but water", sea.level(1, 1), -0.0005);
        Check.yes("2 kept", sea.kept());
    }

    private static void depthZeroMakesLand() {
        Sea sea = new Sea(2, 1, 1);
        sea.depth(0, 0, 5.0);
        sea.depth(1, 0, 3.0);
        Check.yes("2 land", sea.depth(0, 0, 0.0));
        Check.same("2 level of land", sea.level(0, 0), NOWHERE);
        Check.same("2 volume without it", sea.volume(0), 3000);
        Check.yes("2 minus zero is zero", sea.depth(1, 0, -0.0));
        Check.same("2 level of land again", sea.level(1, 0), NOWHERE);
        Check.same("2 no volume", sea.volume(0), 0);
        Check.yes("2 kept", sea.kept());
    }

    private static void depthTellsACellAnew() {
        Sea sea = movedSea();
        Check.yes("2 mud was there", sea.mud(0, 0) > 0.0);
        Check.yes("2 warmth was other", sea.warm(0, 0, 0) != 10.0);
        int nest = sea.nest(0, 0, 2);
        Check.yes("2 beds", sea.equal(nest));
        Check.yes("2 told anew", sea.depth(0, 0, 7.0));
        Check.same("2 warmth anew", sea.warm(0, 0, 0), 10.0);
        Check.same("2 salt anew", sea.salt(0, 0, 0), 35.0);
        Check.same("2 mud anew", sea.mud(0, 0), 0.0);
        Check.same("2 level anew", sea.level(0, 0), 0.0);
        Check.no("2 no beds", sea.equal(nest));
        Check.yes("2 kept", sea.kept());
    }

    private static void depthRefuses() {
        Sea sea = new Sea(2, 2, 1);
        sea.depth(0, 0, 5.0);
        double[] wrong = {-0.001, 1000.001, Double.NaN, Double.POSITIVE_INFINITY,
            Double.NEGATIVE_INFINITY, -Double.MIN_VALUE, Double.MAX_VALUE};
        for (double metres : wrong) {
            Check.no("2 depth of " + metres, sea.depth(0, 0, metres));
        }
        int[] places = {-1, 2, Integer.MIN_VALUE, Integer.MAX_VALUE};
        for (int place : places) {
            Check.no("2 depth at i " + place, sea.depth(place, 0, 5.0));
            Check.no("2 depth at j " + place, sea.depth(0, place, 5.0));
        }
        Check.same("2 nothing changed", sea.level(0, 0), 0.0);
        Check.same("2 nothing added", sea.volume(0), 5000);
    }

    private static void depthStillsTheFacesOfItsCellAlone() {
        Sea sea = movedSea();
        double other = sea.speed(1, 1, 0, 0);
        Check.yes("2 speeds are there", sea.speed(0, 0, 0, 0) != 0.0 && sea.speed(1, 0, 0, 0) != 0.0
            && sea.speed(1, 0, 0, 1) != 0.0 && other != 0.0);
        sea.depth(1, 0, 10.0);
        Check.same("2 face before it", sea.speed(0, 0, 0, 0), 0.0);
        Check.same("2 face behind it", sea.speed(1, 0, 0, 0), 0.0);
        Check.same("2 face of axis 1", sea.speed(1, 0, 0, 1), 0.0);
        Check.same("2 face of others", sea.speed(1, 1, 0, 0), other);
        sea.depth(2, 1, 10.0);
        Check.same("2 face at an open side", sea.speed(2, 1, 0, 0), 0.0);
    }

    /** Three by two cells of ten metres, all faces moving, the side 1 open. */
    private static Sea movedSea() {
        Sea sea = new Sea(3, 2, 1);
        for (int i = 0; i < 3; i++) {
            for (int j = 0; j < 2; j++) {
                sea.depth(i, j, 10.0);
            }
        }
        sea.border(1, 0, 3.0, 0.1);
        sea.river(0, 0, 50.0);
        sea.wind(0, 20.0, -30.0);
        sea.run(10, 60.0);
        return sea;
    }

    private static void borderRefusesAndOpens() {
        Sea sea = new Sea(1, 1, 1);
        sea.depth(0, 0, 10.0);
        double[] sizes = {-0.001, 20.001, Double.NaN, Double.POSITIVE_INFINITY};
        for (double size : sizes) {
            Check.no("3 size " + size, sea.border(1, 0, size, 0.0));
        }
        double[] phases = {-0.001, 1.001, Double.NaN, Double.NEGATIVE_INFINITY};
        for (double phase : phases) {
            Check.no("3 phase " + phase, sea.border(1, 0, 1.0, phase));
        }
        int[] sides = {-1, 4, Integer.MIN_VALUE, Integer.MAX_VALUE};
        for (int side : sides) {
            Check.no("3 side " + side, sea.border(side, 0, 1.0, 0.0));
        }
        int[] waves = {-1, 8, Integer.MIN_VALUE, Integer.MAX_VALUE};
        for (int wave : waves) {
            Check.no("3 wave " + wave, sea.border(1, wave, 1.0, 0.0));
        }
        sea.wind(0, 100.0, 100.0);
        sea.run(1, 100.0);
        Check.same("3 no face at a side that was refused", sea.speed(0, 0, 0, 0), 0.0);
        Check.yes("3 a wave of size 0", sea.border(1, 7, 0.0, 1.0));
        Check.same("3 speed is 0 at first", sea.speed(0, 0, 0, 0), 0.0);
        sea.run(1, 100.0);
        Check.same("3 opens its side", sea.speed(0, 0, 0, 0), 100.0 * (0.00981 * 0.0 + 0.00001 * 100.0));
        Check.same("3 and no other", sea.speed(0, 0, 0, 1), 0.0);
        Check.yes("3 largest", sea.border(3, 0, 20.0, 0.0));
    }

    private static void borderWavesAddUp() {
        // Phase 0.0 stands at the size, 0.25 at 0, 0.5 at less the size.
        outside("one wave", new double[][] {{0, 2.0, 0.0}}, 2.0);
        outside("at its least", new double[][] {{0, 2.0, 0.5}}, -2.0);
        outside("between", new double[][] {{0, 2.0, 0.25}}, 0.0);
        outside("falling", new double[][] {{0, 2.0, 0.125}}, 1.0);
        outside("rising", new double[][] {{0, 2.0, 0.875}}, 1.0);
        outside("a whole turn", new double[][] {{0, 2.0, 1.0}}, 2.0);
        outside("two waves", new double[][] {{0, 2.0, 0.0}, {7, 0.5, 0.5}}, 1.5);
        outside("told again", new double[][] {{3, 2.0, 0.0}, {3, 1.0, 0.0}}, 1.0);
        wavesTurnInTheirHours();
    }

    /** Only the face behind a cell can be read: the sides 0 and 2 show in what came over them. */
    private static void wavesTurnInTheirHours() {
        Sea sea = new Sea(1, 1, 1);
        sea.run(2, 450.0);
        sea.depth(0, 0, 10.0);
        sea.border(0, 0, 2.0, 0.5);
        sea.border(0, 1, 1.0, 0.25);
        sea.border(2, 2, 3.0, 0.0);
        sea.run(1, 60.0);
        double outside0 = 0.0 + 2.0 * (4 * 0.75 - 3) + 1.0 * (1 - 4 * 0.375);
        double outside2 = 0.0 + 3.0 * (1 - 4 * (900.0 / 10800));
        Check.same("3 came in over side 0", sea.through(0),
            Lines.asked(Lines.speed(0.0, 60.0, outside0, 0.0), 60.0, 10000));
        Check.same("3 came in over side 2", sea.through(2),
            Lines.asked(Lines.speed(0.0, 60.0, outside2, 0.0), 60.0, 10000));
    }

    private static void outside(String name, double[][] waves, double due) {
        Sea sea = new Sea(1, 1, 1);
        sea.depth(0, 0, 10.0);
        for (double[] wave : waves) {
            Check.yes("3 " + name, sea.border(1, (int) wave[0], wave[1], wave[2]));
        }
        sea.run(1, 1.0);
        Check.same("3 " + name + ": speed", sea.speed(0, 0, 0, 0), 0.00981 * (0.0 - due));
    }

    private static void windBlowsInItsHour() {
        Sea sea = new Sea(2, 2, 1);
        for (int k = 0; k < 4; k++) {
            sea.depth(k % 2, k / 2, 10.0);
        }
        sea.run(1, 1.0);
        Check.same("4 no wind at first", sea.speed(0, 0, 0, 0), 0.0);
        Check.yes("4 wind of hour 0", sea.wind(0, 7.0, -9.0));
        Check.yes("4 wind of hour 1", sea.wind(1, 70.0, 0.0));
        Check.yes("4 wind of hour 23", sea.wind(23, -100.0, 100.0));
        sea.run(1, 1.0);
        Check.same("4 along axis 0", sea.speed(0, 0, 0, 0), 0.00001 * 7.0);
        Check.same("4 along axis 1", sea.speed(0, 0, 0, 1), 0.00001 * -9.0);

        windAt(0, 10.0);
        windAt(3599, 10.0);
        windAt(3600, 20.0);
        windAt(7199, 20.0);
        windAt(7200, 0.0);
        windAt(82799, 0.0);
        windAt(82800, 30.0);
        windAt(86399, 30.0);
        windAt(86400, 10.0);
        windAt(90000, 20.0);
    }

    /** The wind along axis 0 of a step from that second on, read from the speed that it makes. */
    private static void windAt(int second, double due) {
        Sea sea = new Sea(2, 1, 1);
        sea.wind(0, 10.0, 0.0);
        sea.wind(1, 20.0, 0.0);
        sea.wind(23, 30.0, 0.0);
        sea.run(second / 600, 600.0);
        if (second % 600 != 0) {
            sea.run(1, second % 600);
        }
        sea.depth(0, 0, 10.0);
        sea.depth(1, 0, 10.0);
        sea.run(1, 1.0);
        Check.same("4 wind from second " + second, sea.speed(0, 0, 0, 0), 0.00001 * due);
    }

    private static void windRefuses() {
        Sea sea = new Sea(2, 1, 1);
        sea.depth(0, 0, 10.0);
        sea.depth(1, 0, 10.0);
        Check.yes("4 wind", sea.wind(0, 5.0, 5.0));
        int[] hours = {-1, 24, Integer.MIN_VALUE, Integer.MAX_VALUE};
        for (int hour : hours) {
            Check.no("4 hour " + hour, sea.wind(hour, 1.0, 1.0));
        }
        double[] winds = {-100.001, 100.001, Double.NaN, Double.POSITIVE_INFINITY,
            Double.NEGATIVE_INFINITY};
        for (double wind : winds) {
            Check.no("4 u " + wind, sea.wind(0, wind, 1.0));
            Check.no("4 v " + wind, sea.wind(0, 1.0, wind));
        }
        sea.run(1, 1.0);
        Check.same("4 nothing changed", sea.speed(0, 0, 0, 0), 0.00001 * 5.0);
    }

    private static void riverBringsParts() {
        Sea sea = new Sea(2, 2, 1);
        sea.depth(1, 0, 10.0);
        sea.depth(0, 1, 10.0);
        Check.yes("5 river", sea.river(1, 0, 2.75));
        sea.run(1, 1.5);
        Check.same("5 cut", sea.volume(0), 20004);
        Check.same("5 in its cell", sea.level(1, 0), 10004 * 0.001 - 10.0);
        Check.same("5 warmth", sea.warm(1, 0, 0), (10.0 * 10000 + 4 * 12.0) / 10004);
        Check.same("5 salt", sea.salt(1, 0, 0), (35.0 * 10000 + 4 * 0.0) / 10004);
        Check.yes("5 told again", sea.river(1, 0, 1000.0));
        sea.run(2, 600.0);
        Check.same("5 of the rate told last", sea.volume(0), 20004 + 2 * 600000);
        Check.yes("5 none", sea.river(1, 0, 0.0));
        sea.run(5, 600.0);
        Check.same("5 nothing more", sea.volume(0), 20004 + 2 * 600000);
        Check.yes("5 kept", sea.kept());
    }

    private static void riverRefuses() {
        Sea sea = new Sea(2, 2, 1);
        sea.depth(0, 0, 10.0);
        Check.yes("5 river", sea.river(0, 0, 1.0));
        Check.no("5 on land", sea.river(1, 0, 1.0));
        double[] rates = {-0.001, 1000.001, Double.NaN, Double.POSITIVE_INFINITY};
        for (double rate : rates) {
            Check.no("5 rate " + rate, sea.river(0, 0, rate));
        }
        int[] places = {-1, 2, Integer.MIN_VALUE, Integer.MAX_VALUE};
        for (int place : places) {
            Check.no("5 i " + place, sea.river(place, 0, 1.0));
            Check.no("5 j " + place, sea.river(0, place, 1.0));
        }
        sea.run(1, 10.0);
        Check.same("5 nothing changed", sea.volume(0), 10010);
    }

    private static void riverOutlivesDepth() {
        Sea sea = new Sea(1, 1, 1);
        sea.depth(0, 0, 10.0);
        sea.river(0, 0, 3.0);
        sea.depth(0, 0, 0.0);
        sea.run(1, 10.0);
        Check.same("5 nothing on land", sea.volume(0), 0);
        sea.depth(0, 0, 1.0);
        sea.run(1, 10.0);
        Check.same("5 flows again", sea.volume(0), 1030);
        Check.yes("5 kept", sea.kept());
    }

    private static void levelIsVolumeLessDepth() {
        Sea sea = new Sea(2, 1, 1);
        sea.depth(0, 0, 0.1);
        sea.river(0, 0, 7.0);
        sea.run(3, 1.0);
        Check.same("7 level", sea.level(0, 0), 121 * 0.001 - 0.1);
        Check.same("7 land", sea.level(1, 0), NOWHERE);
        int[] places = {-1, 2, Integer.MIN_VALUE, Integer.MAX_VALUE};
        for (int place : places) {
            Check.same("7 i " + place, sea.level(place, 0), NOWHERE);
            Check.same("7 j " + place, sea.level(0, place), NOWHERE);
        }
    }

    private static void dryBelowFifty() {
        Sea sea = new Sea(3, 1, 1);
        sea.depth(0, 0, 0.0495);
        sea.depth(1, 0, 0.0505);
        Check.yes("14 of 49 parts", sea.dry(0, 0));
        Check.no("14 of 50 parts", sea.dry(1, 0));
        Check.yes("14 land", sea.dry(2, 0));
        int[] places = {-1, 3, Integer.MIN_VALUE, Integer.MAX_VALUE};
        for (int place : places) {
            Check.yes("14 i " + place, sea.dry(place, 0));
            Check.yes("14 j " + place, sea.dry(1, place));
        }
        sea.river(0, 0, 1.0);
        sea.run(1, 1.0);
        Check.no("14 no longer", sea.dry(0, 0));
    }
}
