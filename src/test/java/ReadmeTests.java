/** What README.md tells: its example, call by call, and the last column of its table. */
public final class ReadmeTests {
    private static final double NO_READING = -1.0e6;

    public static void main(String[] args) {
        example();
        sizesAreTakenIntoTheirRanges();
        refusedWhenTelling();
        refusedWhenReadingNone();
        refusedWhenReadingLand();
        refusedWhenNumbersAreNone();
        refusedWithoutRoom();
        depthLeavesRiverAndGauge();
        landIsTakenByDepthAndGauge();
        Check.end();
    }

    private static void example() {
        CellCurrents sea = new CellCurrents(3, 1, 2);
        Check.yes("example: depth", sea.depth(0, 0, 10.0));
        Check.yes("example: next depth", sea.depth(1, 0, 12.5));
        Check.yes("example: border", sea.border(0, 0, 2.0, 0.0));
        Check.yes("example: wind", sea.wind(0, 5.0, -2.0));
        Check.yes("example: river", sea.river(1, 0, 3.0));
        int nest = sea.nest(1, 0, 4);
        Check.same("example: nest", nest, 0);
        int start = sea.save();
        Check.same("example: save", start, 0);
        Check.same("example: run", sea.run(60, 60.0), 60);
        Check.same("example: level", sea.level(1, 0), 14907 * 0.001 - 12.5);
        Check.same("example: level in millimetres", Math.round(sea.level(1, 0) * 1000), 2407);
        Check.yes("example: kept", sea.kept());
        Check.yes("example: equal", sea.equal(nest));
        Check.yes("example: gauge", sea.gauge(1, 0, 0.5, 0.75));
        Check.yes("example: next gauge", sea.gauge(1, 0, 1.0, 0.25));
        Check.same("example: fit", sea.fit(0), 1);
        Check.same("example: tide", sea.tide(24.0), 0.5);
        Check.yes("example: back", sea.back(start));
        Check.same("example: level again", sea.level(1, 0), 0.0);
    }

    private static void sizesAreTakenIntoTheirRanges() {
        CellCurrents least = new CellCurrents(0, -5, 0);
        Check.yes("least: its cell", least.depth(0, 0, 1.0));
        Check.no("least: no second column", least.depth(1, 0, 1.0));
        Check.no("least: no second row", least.depth(0, 1, 1.0));
        Check.same("least: its layer", least.warm(0, 0, 0), 10.0);
        Check.same("least: no second layer", least.warm(0, 0, 1), NO_READING);
        CellCurrents most = new CellCurrents(13, 1000, 5);
        Check.yes("most: its last cell", most.depth(11, 11, 1.0));
        Check.no("most: no column 12", most.depth(12, 11, 1.0));
        Check.no("most: no row 12", most.depth(11, 12, 1.0));
        Check.same("most: its last layer", most.warm(11, 11, 3), 8.5);
        Check.same("most: no layer 4", most.warm(11, 11, 4), NO_READING);
    }

    /** 2 by 1 cells and 2 layers: water at i = 0, land at i = 1. */
    private static CellCurrents halfLand() {
        CellCurrents sea = new CellCurrents(2, 1, 2);
        Check.yes("water at i = 0", sea.depth(0, 0, 1.0));
        return sea;
    }

    private static void refusedWhenTelling() {
        CellCurrents sea = halfLand();
        Check.no("refused: depth of none", sea.depth(2, 0, 1.0));
        Check.no("refused: depth", sea.depth(0, 0, 1000.5));
        Check.no("refused: depth NaN", sea.depth(0, 0, Double.NaN));
        Check.no("refused: border of none", sea.border(4, 0, 1.0, 0.0));
        Check.no("refused: wave", sea.border(0, 8, 1.0, 0.0));
        Check.no("refused: size", sea.border(0, 0, 20.5, 0.0));
        Check.no("refused: phase", sea.border(0, 0, 1.0, 1.5));
        Check.no("refused: hour of wind", sea.wind(24, 1.0, 1.0));
        Check.no("refused: wind", sea.wind(0, 100.5, 1.0));
        Check.no("refused: wind along axis 1", sea.wind(0, 1.0, -100.5));
        Check.no("refused: river", sea.river(0, 0, 1000.5));
        Check.no("refused: river on land", sea.river(1, 0, 1.0));
        Check.same("refused: steps", sea.run(201, 1.0), -1);
        Check.same("refused: seconds", sea.run(1, 600.5), -1);
        Check.no("refused: gauge of none", sea.gauge(2, 0, 1.0, 1.0));
        Check.no("refused: hour of gauge", sea.gauge(0, 0, 1000.5, 1.0));
        Check.no("refused: level of gauge", sea.gauge(0, 0, 1.0, 100.5));
    }

    private static void refusedWhenReadingNone() {
        CellCurrents sea = halfLand();
        Check.same("none: level", sea.level(2, 0), NO_READING);
        Check.same("none: warm", sea.warm(2, 0, 0), NO_READING);
        Check.same("none: salt", sea.salt(2, 0, 0), NO_READING);
        Check.same("no layer: salt", sea.salt(0, 0, 2), NO_READING);
        Check.same("none: speed", sea.speed(2, 0, 0, 0), 0.0);
        Check.same("no axis: speed", sea.speed(0, 0, 0, 2), 0.0);
        Check.same("none: mud", sea.mud(2, 0), 0.0);
        Check.same("none: ice", sea.ice(2, 0), 0.0);
        Check.same("none: differs", sea.differs(2, 0), 0.0);
        Check.yes("none: dry", sea.dry(2, 0));
    }

    private static void refusedWhenReadingLand() {
        CellCurrents sea = halfLand();
        Check.same("land: level", sea.level(1, 0), NO_READING);
        Check.same("land: warm", sea.warm(1, 0, 0), NO_READING);
        Check.same("land: salt", sea.salt(1, 0, 0), NO_READING);
        Check.same("land: speed", sea.speed(0, 0, 0, 0), 0.0);
        Check.same("land: mud", sea.mud(1, 0), 0.0);
        Check.same("land: ice", sea.ice(1, 0), 0.0);
        Check.yes("land: dry", sea.dry(1, 0));
        Check.same("land: nest", sea.nest(1, 0, 2), CellCurrents.NONE);
    }

    private static void refusedWhenNumbersAreNone() {
        CellCurrents sea = halfLand();
        Check.same("NONE", CellCurrents.NONE, -1);
        Check.same("no limb: volume", sea.volume(2), CellCurrents.NONE);
        Check.same("no limb: through", sea.through(0, 2), CellCurrents.NONE);
        Check.same("no side: through", sea.through(4, 0), CellCurrents.NONE);
        Check.same("no nest of so many", sea.nest(0, 0, 9), CellCurrents.NONE);
        Check.no("no nest: equal", sea.equal(0));
        Check.no("no state: back", sea.back(0));
        Check.same("no fit of so many", sea.fit(3), CellCurrents.NONE);
        Check.same("no fit: tide", sea.tide(1.0), 0.0);
    }

    private static void refusedWithoutRoom() {
        CellCurrents sea = halfLand();
        for (int n = 0; n < 10; n++) {
            Check.same("nest", sea.nest(0, 0, 2), n);
            Check.yes("equal", sea.equal(n));
            Check.yes("depth", sea.depth(0, 0, 1.0));
            Check.no("equal of an empty nest", sea.equal(n));
        }
        Check.same("an eleventh nest", sea.nest(0, 0, 2), CellCurrents.NONE);
        for (int n = 0; n < 4; n++) {
            Check.same("save", sea.save(), n);
        }
        Check.same("a fifth state", sea.save(), CellCurrents.NONE);
        Check.yes("back to the last state", sea.back(3));
        for (int n = 0; n < 40; n++) {
            Check.yes("gauge", sea.gauge(0, 0, n, 0.5));
        }
        Check.no("a gauge more than forty", sea.gauge(0, 0, 40.0, 0.5));
        Check.yes("a depth after the states", sea.depth(0, 0, 1.0));
        Check.no("back past a depth", sea.back(3));
    }

    private static void depthLeavesRiverAndGauge() {
        CellCurrents sea = halfLand();
        Check.yes("a river", sea.river(0, 0, 10.0));
        Check.yes("a gauge", sea.gauge(0, 0, 1.0, 0.5));
        Check.yes("a depth told anew", sea.depth(0, 0, 3.0));
        Check.same("what its gauge told stays", sea.differs(0, 0), 0.5);
        Check.same("a step", sea.run(1, 2.0), 1);
        Check.same("its river stays", sea.volume(0), 3020);
    }

    private static void landIsTakenByDepthAndGauge() {
        CellCurrents sea = halfLand();
        Check.yes("gauge on land", sea.gauge(1, 0, 1.0, 0.5));
        Check.same("land differs from nothing", sea.differs(1, 0), 0.0);
        Check.yes("land told as land", sea.depth(1, 0, 0.0));
        Check.yes("land made water", sea.depth(1, 0, 2.0));
        Check.same("what its gauge told, less its level", sea.differs(1, 0), 0.5);
    }
}
