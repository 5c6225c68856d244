/** Edges of promises 7 to 14, 22 and 23: what can be read of cells, faces, sides and of all. */
public final class ReadEdgeTests {
    private static final int NONE = CellCurrents.NONE;
    private static final double NOWHERE = -1.0e6;

    public static void main(String[] args) {
        levelOfNoCell();
        levelOfLand();
        speedOfNoCell();
        speedOfNoLayer();
        speedOfNoAxis();
        speedOfNoFace();
        speedAtTheLastCells();
        speedOfEachLayer();
        volumeAroundTheLowLimb();
        volumeOfNoLimb();
        throughAroundZero();
        throughAroundTheLowLimb();
        throughOfNoSide();
        throughOfNoLimb();
        throughOfAClosedSide();
        keptOfANewObject();
        keptWhenDepthGivesAndTakes();
        keptOverSidesAndRivers();
        keptWhenAStateIsBack();
        warmOfNone();
        warmOfEachLayer();
        saltOfNone();
        saltOfEachLayer();
        dryOfNone();
        dryOnBothSidesOfFifty();
        iceAtLeastZero();
        iceOfNone();
        mudOfNone();
        mudBelowAndAboveItsSpeed();
        Check.end();
    }

    private interface Reading {
        double of(Sea sea, int i, int j);
    }

    /** What a reading answers for all places that are none; each column and row is one of some. */
    private static void ofNoCell(String name, Reading reading, double due) {
        Sea sea = Sea.even(3, 2, 10.0);
        sea.wind(0, 100.0, 100.0);
        sea.run(3, 600.0);
        for (int none : Edges.beyond(0, 2)) {
            Check.same(name + ": i " + none, reading.of(sea, none, 0), due);
            Check.same(name + ": i " + none + ", j 1", reading.of(sea, none, 1), due);
        }
        for (int none : Edges.beyond(0, 1)) {
            Check.same(name + ": j " + none, reading.of(sea, 0, none), due);
            Check.same(name + ": i 2, j " + none, reading.of(sea, 2, none), due);
        }
        Check.same(name + ": both", reading.of(sea, 3, 2), due);
        Check.same(name + ": both below", reading.of(sea, -1, -1), due);
        for (int k = 0; k < 6; k++) {
            Check.yes(name + ": but a cell at " + k, reading.of(sea, k % 3, k / 3) != due);
        }
    }

    /** What it answers for land: at first, and when water has become it. */
    private static void ofLand(String name, Reading reading, double due) {
        Sea sea = Sea.row(0.0, 10.0, 10.0);
        sea.wind(0, 100.0, 0.0);
        sea.run(3, 600.0);
        Check.same(name + ": land at first", reading.of(sea, 0, 0), due);
        Check.yes(name + ": water", reading.of(sea, 1, 0) != due);
        sea.depth(1, 0, 0.0);
        Check.same(name + ": new land", reading.of(sea, 1, 0), due);
        sea.run(1, 600.0);
        Check.same(name + ": still land", reading.of(sea, 1, 0), due);
    }

    // ---- promise 7

    /** Promise 7: "-1.0e6 when there is none such". */
    private static void levelOfNoCell() {
        ofNoCell("7 level", Sea::level, NOWHERE);
    }

    /** Promise 7: "or it is land". */
    private static void levelOfLand() {
        ofLand("7 level", Sea::level, NOWHERE);
    }

    // ---- promise 8

    /** Promise 8: "0.0 when there is no such cell". */
    private static void speedOfNoCell() {
        Sea sea = Sea.even(3, 2, 10.0);
        sea.border(1, 0, 0.0, 0.0);
        sea.border(3, 0, 0.0, 0.0);
        sea.wind(0, 100.0, 100.0);
        sea.run(1, 60.0);
        for (int axis = 0; axis < 2; axis++) {
            for (int none : Edges.beyond(0, 2)) {
                Check.same("8 i " + none, sea.speed(none, 0, 0, axis), 0.0);
            }
            for (int none : Edges.beyond(0, 1)) {
                Check.same("8 j " + none, sea.speed(0, none, 0, axis), 0.0);
            }
            for (int k = 0; k < 6; k++) {
                Check.yes("8 a speed at " + k, sea.speed(k % 3, k / 3, 0, axis) > 0.0);
            }
        }
    }

    /** Promise 8: "(no such) layer". */
    private static void speedOfNoLayer() {
        for (int layers = 1; layers <= 4; layers++) {
            Sea sea = new Sea(2, 1, layers);
            sea.depth(0, 0, 10.0);
            sea.depth(1, 0, 10.0);
            sea.wind(0, 100.0, 0.0);
            sea.run(1, 60.0);
            Check.yes("8 the first layer", sea.speed(0, 0, 0, 0) > 0.0);
            Check.yes("8 the last layer", sea.speed(0, 0, layers - 1, 0) > 0.0);
            for (int none : Edges.beyond(0, layers - 1)) {
                Check.same("8 layer " + none + " of " + layers, sea.speed(0, 0, none, 0), 0.0);
            }
        }
    }

    /** Promise 8: "(no such) axis". */
    private static void speedOfNoAxis() {
        Sea sea = Sea.even(2, 2, 10.0);
        sea.wind(0, 100.0, 50.0);
        sea.run(1, 60.0);
        Check.same("8 axis 0", sea.speed(0, 0, 0, 0), Lines.speed(0.0, 60.0, 0.0, 100.0));
        Check.same("8 axis 1", sea.speed(0, 0, 0, 1), Lines.speed(0.0, 60.0, 0.0, 50.0));
        for (int none : Edges.beyond(0, 1)) {
            Check.same("8 axis " + none, sea.speed(0, 0, 0, none), 0.0);
        }
    }

    /** Promise 8: "or face": land behind, land before, sides that are closed. */
    private static void speedOfNoFace() {
        Sea sea = Sea.row(10.0, 10.0, 0.0, 10.0);
        sea.wind(0, 100.0, 100.0);
        sea.run(1, 60.0);
        Check.yes("8 water behind", sea.speed(0, 0, 0, 0) > 0.0);
        Check.same("8 land behind", sea.speed(1, 0, 0, 0), 0.0);
        Check.same("8 of land", sea.speed(2, 0, 0, 0), 0.0);
        Check.same("8 closed side 1", sea.speed(3, 0, 0, 0), 0.0);
        Check.same("8 closed side 3", sea.speed(0, 0, 0, 1), 0.0);
        sea.border(1, 0, 0.0, 0.0);
        sea.border(3, 0, 0.0, 0.0);
        sea.run(1, 60.0);
        Check.yes("8 open side 1", sea.speed(3, 0, 0, 0) > 0.0);
        Check.yes("8 open side 3", sea.speed(0, 0, 0, 1) > 0.0);
        Check.same("8 open side 3 of land", sea.speed(2, 0, 0, 1), 0.0);
        sea.depth(1, 0, 0.0);
        Check.same("8 new land behind", sea.speed(0, 0, 0, 0), 0.0);
        sea.depth(3, 0, 0.0);
        Check.same("8 new land at a side", sea.speed(3, 0, 0, 0), 0.0);
    }

    /** Promise 8: "(to the next cell, or to what is outside)": sides 1 and 3 alone lie behind. */
    private static void speedAtTheLastCells() {
        for (int side = 0; side < 4; side++) {
            Sea sea = Sea.even(2, 2, 10.0);
            sea.border(side, 0, 0.0, 0.0);
            sea.wind(0, 100.0, 50.0);
            sea.run(1, 60.0);
            double u = Lines.speed(0.0, 60.0, 0.0, 100.0);
            double v = Lines.speed(0.0, 60.0, 0.0, 50.0);
            for (int k = 0; k < 2; k++) {
                Check.same("8 next cell, axis 0", sea.speed(0, k, 0, 0), u);
                Check.same("8 next cell, axis 1", sea.speed(k, 0, 0, 1), v);
                Check.same("8 outside, axis 0, side " + side, sea.speed(1, k, 0, 0), side == 1 ? u : 0.0);
                Check.same("8 outside, axis 1, side " + side, sea.speed(k, 1, 0, 1), side == 3 ? v : 0.0);
            }
        }
    }

    /** Promise 8: "it * (1 + 0.25 * (layers - 1 - 2 * layer))", first and last layer of each. */
    private static void speedOfEachLayer() {
        double[][] times = {{1.0}, {1.25, 0.75}, {1.5, 1.0, 0.5}, {1.75, 1.25, 0.75, 0.25}};
        for (int layers = 1; layers <= 4; layers++) {
            Sea sea = new Sea(1, 1, layers);
            sea.depth(0, 0, 10.0);
            sea.border(1, 0, 3.0, 0.5);
            sea.run(1, 60.0);
            for (int layer = 0; layer < layers; layer++) {
                Check.same("8 layer " + layer + " of " + layers, sea.speed(0, 0, layer, 0),
                    Lines.speed(0.0, 60.0, 0.0 - -3.0, 0.0) * times[layers - 1][layer]);
            }
        }
    }

    // ---- promise 9

    /** Promise 9: "0 the low 32 bits (without sign), 1 what is above": around 2^31 and 2^32. */
    private static void volumeAroundTheLowLimb() {
        Sea sea = new Sea(2, 1, 1);
        Check.same("9 none, low", sea.volume(0), 0);
        Check.same("9 none, high", sea.volume(1), 0);
        sea.depth(0, 0, 10.0);
        fillTo(sea, 10000, (1L << 31) - 1);
        Check.same("9 2^31 - 1", sea.volume(0), 2147483647L);
        fillTo(sea, (1L << 31) - 1, 1L << 31);
        Check.same("9 2^31, without sign", sea.volume(0), 2147483648L);
        Check.same("9 2^31, high", sea.volume(1), 0);
        fillTo(sea, 1L << 31, (1L << 32) - 1);
        Check.same("9 2^32 - 1", sea.volume(0), 4294967295L);
        Check.same("9 2^32 - 1, high", sea.volume(1), 0);
        fillTo(sea, (1L << 32) - 1, 1L << 32);
        Check.same("9 2^32", sea.volume(0), 0);
        Check.same("9 2^32, high", sea.volume(1), 1);
        fillTo(sea, 1L << 32, (1L << 32) + 1);
        Check.same("9 2^32 + 1", sea.volume(0), 1);
        Check.same("9 2^32 + 1, high", sea.volume(1), 1);
        sea.depth(1, 0, 1000.0);
        Check.same("9 all cells together", sea.volume(0), 1000001);
        fillTo(sea, (1L << 32) + 1000001, 3L << 32);
        Check.same("9 3 * 2^32", sea.volume(0), 0);
        Check.same("9 3 * 2^32, high", sea.volume(1), 3);
        Check.yes("11 kept", sea.kept());
    }

    /** Lets the river of the first cell bring what all lack. */
    private static void fillTo(Sea sea, long now, long due) {
        long missing = due - now;
        sea.river(0, 0, 1000.0);
        for (; missing >= 200 * 600000; missing -= 200 * 600000) {
            sea.run(200, 600.0);
        }
        sea.run((int) (missing / 600000), 600.0);
        sea.run((int) (missing % 600000 / 6000), 6.0);
        sea.river(0, 0, missing % 6000 / 6);
        sea.run(1, 6.0);
        sea.river(0, 0, missing % 6);
        sea.run(1, 1.0);
        sea.river(0, 0, 0.0);
    }

    /** Promise 9: "NONE for others". */
    private static void volumeOfNoLimb() {
        Sea sea = Sea.row(10.0);
        for (int none : Edges.beyond(0, 1)) {
            Check.same("9 limb " + none, sea.volume(none), NONE);
            Check.same("9 limb " + none + " of land", new Sea(1, 1, 1).volume(none), NONE);
        }
        Check.same("9 limb 0", sea.volume(0), 10000);
        Check.same("9 limb 1", sea.volume(1), 0);
    }

    // ---- promise 10

    /** Promise 10: "likewise (1 keeps the sign)": a part out, none, a part in. */
    private static void throughAroundZero() {
        for (int side = 0; side < 4; side++) {
            for (int parts = -1; parts <= 1; parts++) {
                Sea sea = Sea.row(1.0);
                sea.border(side, 0, 0.0, 0.0);
                double wind = (side % 2 == 0 ? 1 : -1) * 15.0 * parts;
                sea.wind(0, wind, wind);
                sea.run(1, 100.0);
                Check.same("10 low of " + parts, sea.through(side, 0), parts < 0 ? 4294967295L : parts);
                Check.same("10 high of " + parts, sea.through(side, 1), parts < 0 ? -1 : 0);
                Check.same("10 it is so: " + parts, sea.volume(), 1000 + parts);
            }
        }
    }

    /** Promise 10: "All that came in over a side, less what went out": above 2^32, below -2^32. */
    private static void throughAroundTheLowLimb() {
        for (int side = 0; side < 4; side++) {
            Sea sea = new Sea(1, 1, 1);
            long due = 0;
            for (int n = 0; n < 9; n++) {
                for (int wave = 0; wave < 8; wave++) {
                    double turns = n * 600.0 / (3600 * (wave + 1));
                    sea.border(side, wave, 20.0, 1.0 - (turns - Math.floor(turns)));
                }
                sea.depth(0, 0, 1000.0);
                sea.run(1, 600.0);
                due += sea.volume() - 1000000;
                throughIs(sea, side, due);
            }
            Check.yes("10 above 2^32", due > 1L << 32);
            for (int wave = 0; wave < 8; wave++) {
                sea.border(side, wave, 0.0, 0.0);
            }
            sea.depth(0, 0, 10.0);
            sea.river(0, 0, 1000.0);
            long before = due;
            for (int n = 1; n <= 130; n++) {
                sea.run(200, 600.0);
                if (n % 10 == 0) {
                    due = before + sea.volume() - 10000 - n * 120000000L;
                    throughIs(sea, side, due);
                }
            }
            Check.yes("10 below -2^32 over side " + side, due < -(1L << 32));
        }
    }

    private static void throughIs(Sea sea, int side, long due) {
        Check.same("10 low over " + side, sea.through(side, 0), due & 0xFFFFFFFFL);
        Check.same("10 high over " + side, sea.through(side, 1), due >> 32);
    }

    /** Promise 10: "NONE .. for others, or no such side": no side. */
    private static void throughOfNoSide() {
        Sea sea = Sea.row(10.0);
        sea.border(3, 0, 5.0, 0.0);
        sea.run(1, 60.0);
        for (int none : Edges.beyond(0, 3)) {
            Check.same("10 side " + none, sea.through(none, 0), NONE);
            Check.same("10 side " + none + ", high", sea.through(none, 1), NONE);
        }
        Check.yes("10 side 3", sea.through(3, 0) > 0);
    }

    /** Promise 10: "NONE (which may be a 1, too) for others": no limb, of each side. */
    private static void throughOfNoLimb() {
        Sea sea = Sea.row(10.0);
        for (int side = 0; side < 4; side++) {
            sea.border(side, 0, 5.0, 0.0);
        }
        sea.run(1, 60.0);
        for (int side = 0; side < 4; side++) {
            for (int none : Edges.beyond(0, 1)) {
                Check.same("10 limb " + none, sea.through(side, none), NONE);
            }
            Check.yes("10 limb 0", sea.through(side, 0) > 0);
            Check.same("10 limb 1", sea.through(side, 1), 0);
        }
    }

    /** Promise 10: a side that was never open is a side all the same: nothing came in. */
    private static void throughOfAClosedSide() {
        Sea sea = Sea.row(10.0);
        sea.wind(0, 100.0, 100.0);
        sea.run(3, 600.0);
        for (int side = 0; side < 4; side++) {
            Check.same("10 closed, low", sea.through(side, 0), 0);
            Check.same("10 closed, high", sea.through(side, 1), 0);
        }
    }

    // ---- promise 11

    /** Promise 11: kept before anything was told, and when land alone was. */
    private static void keptOfANewObject() {
        Sea sea = new Sea(2, 2, 1);
        Check.yes("11 new", sea.kept());
        sea.run(5, 600.0);
        Check.yes("11 steps of land", sea.kept());
        sea.depth(0, 0, 0.0);
        Check.yes("11 land", sea.kept());
    }

    /** Promise 11: "what depth() told, less what it took away". */
    private static void keptWhenDepthGivesAndTakes() {
        Sea sea = Sea.row(10.0, 10.0);
        Check.yes("11 told", sea.kept());
        sea.river(0, 0, 7.0);
        sea.run(20, 60.0);
        Check.yes("11 a river", sea.kept());
        sea.depth(0, 0, 3.0);
        Check.yes("11 told anew, with less", sea.kept());
        sea.depth(0, 0, 300.0);
        Check.yes("11 told anew, with more", sea.kept());
        sea.depth(0, 0, 300.0);
        Check.yes("11 told anew, with the same", sea.kept());
        sea.depth(1, 0, 0.0);
        Check.yes("11 taken away", sea.kept());
        sea.depth(1, 0, Double.MIN_VALUE);
        Check.yes("11 without a part", sea.kept());
        sea.depth(0, 0, 0.0);
        Check.yes("11 without any", sea.kept());
        Check.same("11 nothing is left", sea.volume(), 0);
    }

    /** Promise 11: "and all that came over sides and by rivers". */
    private static void keptOverSidesAndRivers() {
        for (int side = 0; side < 4; side++) {
            Sea sea = Sea.even(2, 2, 5.0);
            sea.border(side, 0, 5.0, 0.9);
            sea.river(1, 1, 12.5);
            for (int n = 0; n < 40; n++) {
                sea.run(3, 311.0);
                Check.yes("11 over side " + side, sea.kept());
            }
            Check.yes("11 something came or went", sea.through(side) != 0);
        }
    }

    /** Promise 11: a state that is back brings its own sums with it. */
    private static void keptWhenAStateIsBack() {
        Sea sea = Sea.even(2, 2, 5.0);
        sea.border(1, 0, 5.0, 0.9);
        sea.river(1, 1, 12.5);
        sea.run(3, 300.0);
        sea.save();
        long volume = sea.volume();
        sea.run(30, 300.0);
        Check.yes("11 there is more or less", sea.volume() != volume);
        Check.yes("11 back", sea.back(0));
        Check.yes("11 kept", sea.kept());
        Check.same("11 as much as then", sea.volume(), volume);
        sea.run(30, 300.0);
        Check.yes("11 kept when it goes on", sea.kept());
        sea.depth(0, 0, 1.0);
        Check.yes("11 and when depth takes away", sea.kept());
    }

    // ---- promises 12 and 13

    /** Promise 12: "-1.0e6 when there is none such, or land": cells and layers. */
    private static void warmOfNone() {
        ofNoCell("12 warm", (sea, i, j) -> sea.warm(i, j, 0), NOWHERE);
        ofLand("12 warm", (sea, i, j) -> sea.warm(i, j, 0), NOWHERE);
        for (int layers = 1; layers <= 4; layers++) {
            Sea sea = new Sea(1, 1, layers);
            sea.depth(0, 0, 10.0);
            for (int none : Edges.beyond(0, layers - 1)) {
                Check.same("12 layer " + none + " of " + layers, sea.warm(0, 0, none), NOWHERE);
            }
        }
    }

    /** Promise 12: "it - 0.5 * layer", to the last layer. */
    private static void warmOfEachLayer() {
        double[] due = {10.0, 9.5, 9.0, 8.5};
        for (int layers = 1; layers <= 4; layers++) {
            Sea sea = new Sea(1, 1, layers);
            sea.depth(0, 0, 10.0);
            for (int layer = 0; layer < layers; layer++) {
                Check.same("12 layer " + layer + " of " + layers, sea.warm(0, 0, layer), due[layer]);
            }
        }
    }

    /** Promise 13: "likewise": -1.0e6 when there is none such, or land. */
    private static void saltOfNone() {
        ofNoCell("13 salt", (sea, i, j) -> sea.salt(i, j, 0), NOWHERE);
        ofLand("13 salt", (sea, i, j) -> sea.salt(i, j, 0), NOWHERE);
        for (int layers = 1; layers <= 4; layers++) {
            Sea sea = new Sea(1, 1, layers);
            sea.depth(0, 0, 10.0);
            for (int none : Edges.beyond(0, layers - 1)) {
                Check.same("13 layer " + none + " of " + layers, sea.salt(0, 0, none), NOWHERE);
            }
        }
    }

    /** Promise 13: "it + 0.1 * layer", to the last layer. */
    private static void saltOfEachLayer() {
        for (int layers = 1; layers <= 4; layers++) {
            Sea sea = new Sea(1, 1, layers);
            sea.depth(0, 0, 10.0);
            for (int layer = 0; layer < layers; layer++) {
                Check.same("13 layer " + layer + " of " + layers, sea.salt(0, 0, layer), 35.0 + 0.1 * layer);
            }
        }
    }

    // ---- promise 14

    /** Promise 14: "true when there is none such"; land is dry (Terms). */
    private static void dryOfNone() {
        ofNoCell("14 dry", (sea, i, j) -> sea.dry(i, j) ? 1.0 : 0.0, 1.0);
        ofLand("14 dry", (sea, i, j) -> sea.dry(i, j) ? 1.0 : 0.0, 1.0);
    }

    /** Promise 14: "Whether a cell is dry": a river lifts it over 50 parts, one by one. */
    private static void dryOnBothSidesOfFifty() {
        Sea sea = Sea.row(0.0005);
        sea.river(0, 0, 1.0);
        for (int parts = 0; parts < 55; parts++) {
            Check.same("14 parts", sea.volume(), parts);
            Check.same("14 dry with " + parts, sea.dry(0, 0) ? 1 : 0, parts < 50 ? 1 : 0);
            sea.run(1, 1.0);
        }
    }

    // ---- promises 22 and 23

    /** Promise 22: "at least 0.0": at 8.0, at 10.0 and at 12.0; no water is colder than 8.0. */
    private static void iceAtLeastZero() {
        Sea sea = Sea.row(0.0005, 0.0, 10.0, 0.0, 0.0015);
        sea.river(0, 0, 1.0);
        sea.border(1, 0, 20.0, 0.0);
        sea.run(3, 600.0);
        Check.same("22 warmest", sea.warm(0, 0, 0), 12.0);
        Check.same("22 at 12.0", sea.ice(0, 0), 0.0);
        Check.same("22 at 10.0", sea.ice(2, 0), 0.0);
        Check.yes("22 coldest", sea.warm(4, 0, 0) < 8.1 && sea.warm(4, 0, 0) >= 8.0);
        Check.same("22 near 8.0", sea.ice(4, 0), 0.0);
    }

    /** Promise 22: "0.0 for land, or when there is none such". */
    private static void iceOfNone() {
        Sea sea = Sea.row(0.0, 10.0);
        Check.same("22 land at first", sea.ice(0, 0), 0.0);
        sea.depth(1, 0, 0.0);
        Check.same("22 new land", sea.ice(1, 0), 0.0);
        for (int none : Edges.beyond(0, 1)) {
            Check.same("22 i " + none, sea.ice(none, 0), 0.0);
        }
        for (int none : Edges.beyond(0, 0)) {
            Check.same("22 j " + none, sea.ice(0, none), 0.0);
        }
    }

    /** Promise 23: "0.0 for land, or when there is none such". */
    private static void mudOfNone() {
        ofNoCell("23 mud", Sea::mud, 0.0);
        ofLand("23 mud", Sea::mud, 0.0);
    }

    /** Promise 23: "The mud of a cell", on both sides of the speed that makes it, growing only. */
    private static void mudBelowAndAboveItsSpeed() {
        Sea sea = Sea.row(0.0495, 0.0495);
        sea.wind(0, 100.0, 0.0);
        sea.run(1, 199.0);
        Check.same("23 none at 0.199", sea.mud(0, 0), 0.0);
        sea.run(1, 300.0);
        double mud = sea.mud(0, 0);
        Check.yes("23 some above 0.2", sea.speed(0, 0, 0, 0) > 0.2 && mud > 0.0);
        sea.wind(0, 0.0, 0.0);
        sea.run(200, 10.0);
        double later = sea.mud(0, 0);
        Check.yes("23 slow again", sea.speed(0, 0, 0, 0) < 0.2 && sea.speed(0, 0, 0, 0) > -0.2);
        Check.yes("23 it does not fall", later >= mud);
        sea.run(20, 10.0);
        Check.same("23 and stays", sea.mud(0, 0), later);
    }
}
