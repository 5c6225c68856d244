/** Edges of promises 15, 16, 20 and 21: nests, and states that are kept and come back. */
public final class NestEdgeTests {
    private static final int NONE = CellCurrents.NONE;

    public static void main(String[] args) {
        nestOfNoCell();
        nestOfLand();
        nestOfACellWithBeds();
        nestsOfTwoToEightBeds();
        nestsOfTooFewOrTooManyBeds();
        tenNestsAtMost();
        emptyNestsCountToo();
        refusedNestsDoNotCount();
        aNestOfNextToNothing();
        depthEmptiesANestForGood();
        equalOfNoNest();
        equalOfNestsToCome();
        equalOfEmptyNests();
        equalAfterEveryStep();
        fourStatesAtMost();
        statesThatCannotComeBackCount();
        savingChangesNothing();
        backOfNoState();
        backAsSoonAsItIsKept();
        backBringsAll();
        backBringsTheTime();
        backBringsTheBeds();
        backKeepsWhatWasKept();
        backLeavesWhatStepsDoNotChange();
        notBackSinceADepth();
        backSinceARefusedDepth();
        notBackSinceANest();
        backSinceARefusedNest();
        backOfAStateKeptSince();
        Check.end();
    }

    // ---- promise 15

    /** Promise 15: "NONE when there is no such cell". */
    private static void nestOfNoCell() {
        for (int none : Edges.beyond(0, Twins.X - 1)) {
            Twins.unchanged("15 i " + none, sea -> sea.nest(none, 0, 2) == NONE);
        }
        for (int none : Edges.beyond(0, Twins.Y - 1)) {
            Twins.unchanged("15 j " + none, sea -> sea.nest(1, none, 2) == NONE);
        }
    }

    /** Promise 15: "or it is land": at first, and when it has become land. */
    private static void nestOfLand() {
        Twins.unchanged("15 land at first", Twins::land, sea -> sea.nest(0, 0, 2) == NONE);
        Twins.unchanged("15 new land", Twins::moving, sea -> sea.nest(2, 1, 2) == NONE);
    }

    /** Promise 15: "or has beds": of the same number, or another; its neighbour may be parted. */
    private static void nestOfACellWithBeds() {
        for (int n = 2; n <= 8; n++) {
            int beds = n;
            Twins.unchanged("15 it has beds", Twins::moving, sea -> sea.nest(0, 0, beds) == NONE);
        }
        Sea sea = Sea.row(10.0, 10.0);
        Check.same("15 parted", sea.nest(0, 0, 2), 0);
        Check.same("15 has beds", sea.nest(0, 0, 2), NONE);
        Check.same("15 its neighbour", sea.nest(1, 0, 2), 1);
    }

    /** Promise 15: "n is not 2 .. 8": these are. */
    private static void nestsOfTwoToEightBeds() {
        for (int n = 2; n <= 8; n++) {
            Sea sea = Sea.row(10.007);
            Check.same("15 n " + n, sea.nest(0, 0, n), 0);
            Check.yes("16 n " + n, sea.equal(0));
        }
    }

    /** Promise 15: "or n is not 2 .. 8". */
    private static void nestsOfTooFewOrTooManyBeds() {
        int[] few = {1, 0, -1, -2, -8};
        for (int n : few) {
            Twins.unchanged("15 n " + n, sea -> sea.nest(1, 0, n) == NONE);
        }
        for (int n : Edges.beyond(2, 8)) {
            Twins.unchanged("15 n " + n, sea -> sea.nest(1, 0, n) == NONE);
        }
    }

    /** Promise 15: "or there are 10 nests": the tenth, and one more; "the nest's number". */
    private static void tenNestsAtMost() {
        Sea sea = Sea.even(4, 3, 10.0);
        for (int k = 0; k < 10; k++) {
            Check.same("15 nest " + k, sea.nest(k % 4, k / 4, 2 + k % 7), k);
        }
        Check.same("15 the eleventh", sea.nest(2, 2, 2), NONE);
        Check.same("15 and again", sea.nest(3, 2, 2), NONE);
        for (int k = 0; k < 10; k++) {
            Check.yes("16 nest " + k, sea.equal(k));
        }
        Check.no("16 no eleventh", sea.equal(10));
        sea.run(3, 60.0);
        Check.yes("16 the tenth goes on", sea.equal(9));
        Twins.unchanged("15 there are ten", Twins::full, full -> full.nest(2, 1, 2) == NONE);
    }

    /** Promise 15: "(empty ones, too)": ten of one cell. */
    private static void emptyNestsCountToo() {
        Sea sea = Sea.row(10.0, 10.0);
        for (int k = 0; k < 10; k++) {
            Check.same("15 nest " + k, sea.nest(0, 0, 2), k);
            sea.depth(0, 0, 10.0);
            Check.no("16 it is empty", sea.equal(k));
        }
        Check.same("15 all are empty, and ten", sea.nest(0, 0, 2), NONE);
        Check.same("15 nor another cell", sea.nest(1, 0, 2), NONE);
    }

    /** Promise 15: a nest that is refused is none of the ten. */
    private static void refusedNestsDoNotCount() {
        Sea sea = Sea.row(10.0, 0.0, 10.0);
        for (int k = 0; k < 12; k++) {
            Check.same("15 no bed", sea.nest(0, 0, 1), NONE);
            Check.same("15 nine beds", sea.nest(0, 0, 9), NONE);
            Check.same("15 land", sea.nest(1, 0, 2), NONE);
            Check.same("15 no cell", sea.nest(3, 0, 2), NONE);
        }
        Check.same("15 the first", sea.nest(0, 0, 2), 0);
        Check.same("15 has beds", sea.nest(0, 0, 2), NONE);
        Check.same("15 the second", sea.nest(2, 0, 2), 1);
    }

    /** Promise 15: a cell of water with fewer parts than beds, or none. */
    private static void aNestOfNextToNothing() {
        double[] depths = {Double.MIN_VALUE, 0.0005, 0.0015, 0.0075};
        for (double metres : depths) {
            Sea sea = Sea.row(metres);
            Check.same("15 of " + metres, sea.nest(0, 0, 8), 0);
            Check.yes("16 of " + metres, sea.equal(0));
            sea.river(0, 0, 3.0);
            sea.run(1, 1.0);
            Check.yes("16 of three more", sea.equal(0));
        }
    }

    /** Promise 15: "(A cell whose depth is told has none; the nest stays empty then.)" */
    private static void depthEmptiesANestForGood() {
        Sea sea = Sea.row(10.0);
        Check.same("15 a nest", sea.nest(0, 0, 4), 0);
        Check.no("2 a depth that is refused", sea.depth(0, 0, 1000.5));
        Check.yes("16 empties nothing", sea.equal(0));
        Check.same("15 nor takes the beds", sea.nest(0, 0, 4), NONE);
        sea.depth(0, 0, 10.0);
        Check.no("16 empty, the volume being the same", sea.equal(0));
        sea.run(1, 60.0);
        Check.no("16 still empty", sea.equal(0));
        Check.same("15 another nest", sea.nest(0, 0, 4), 1);
        Check.no("16 does not fill it", sea.equal(0));
        sea.depth(0, 0, 0.0);
        Check.no("16 nor the other on land", sea.equal(1));
        sea.depth(0, 0, 10.0);
        Check.no("16 nor water again", sea.equal(1));
    }

    // ---- promise 16

    /** Promise 16: "false when there is none such": beyond 0 .. 9. */
    private static void equalOfNoNest() {
        Sea sea = Sea.even(4, 3, 10.0);
        for (int k = 0; k < 10; k++) {
            sea.nest(k % 4, k / 4, 2);
        }
        Check.yes("16 the first", sea.equal(0));
        Check.yes("16 the last", sea.equal(9));
        for (int none : Edges.beyond(0, 9)) {
            Check.no("16 nest " + none, sea.equal(none));
        }
    }

    /** Promise 16: "none such": numbers that are not given yet. */
    private static void equalOfNestsToCome() {
        Sea sea = Sea.even(4, 3, 10.0);
        for (int k = 0; k <= 10; k++) {
            for (int nest = 0; nest < 10; nest++) {
                Check.same("16 nest " + nest + " of " + k, sea.equal(nest) ? 1 : 0, nest < k ? 1 : 0);
            }
            sea.nest(k % 4, k / 4, 2);
        }
    }

    /** Promise 16: "or it is empty": where nothing is in its cell either. */
    private static void equalOfEmptyNests() {
        Sea sea = Sea.row(0.0005);
        sea.nest(0, 0, 2);
        Check.yes("16 beds without a part", sea.equal(0));
        sea.depth(0, 0, 0.0005);
        Check.no("16 empty", sea.equal(0));
        sea.depth(0, 0, 0.0);
        Check.no("16 empty on land", sea.equal(0));
    }

    /** Promise 16: "Whether the beds of a nest have its cell's volume together": after each step. */
    private static void equalAfterEveryStep() {
        Sea sea = Sea.even(3, 3, 4.0);
        sea.border(0, 0, 3.0, 0.0);
        sea.border(2, 1, 3.0, 0.3);
        sea.river(2, 2, 3.7);
        for (int k = 0; k < 9; k++) {
            sea.nest(k % 3, k / 3, 2 + k % 7);
        }
        for (int n = 0; n < 40; n++) {
            sea.run(1, 13.0 * n + 1.0);
            for (int k = 0; k < 9; k++) {
                Check.yes("16 nest " + k + " after step " + n, sea.equal(k));
            }
        }
    }

    // ---- promise 20

    /** Promise 20: "its number. NONE when four are kept". */
    private static void fourStatesAtMost() {
        Sea sea = Sea.row(10.0, 10.0);
        sea.river(0, 0, 1.0);
        for (int k = 0; k < 4; k++) {
            Check.same("20 state " + k, sea.save(), k);
            sea.run(1, 5.0);
        }
        Check.same("20 the fifth", sea.save(), NONE);
        Check.same("20 and again", sea.save(), NONE);
        for (int k = 3; k >= 0; k--) {
            Check.yes("21 state " + k, sea.back(k));
            Check.same("21 as it was kept first", sea.volume(), 20000 + 5 * k);
        }
        Check.same("20 a state that is back is kept", sea.save(), NONE);
        Twins.unchanged("20 four are kept", Twins::full, full -> full.save() == NONE);
    }

    /** Promise 20: "when four are kept": also such that cannot come back. */
    private static void statesThatCannotComeBackCount() {
        Sea sea = Sea.row(10.0);
        for (int k = 0; k < 4; k++) {
            Check.same("20 state " + k, sea.save(), k);
            sea.depth(0, 0, 5.0);
            Check.no("21 cannot come back", sea.back(k));
        }
        Check.same("20 four all the same", sea.save(), NONE);
    }

    /** Promise 20: "Keeps": what goes on is as if nothing had been kept. */
    private static void savingChangesNothing() {
        Sea sea = Twins.moving();
        Sea other = Twins.moving();
        sea.save();
        sea.save();
        for (int n = 0; n < 10; n++) {
            sea.run(7, 500.0);
            other.run(7, 500.0);
            for (int k = 0; k < 6; k++) {
                Check.same("20 level of " + k, sea.level(k % 3, k / 3), other.level(k % 3, k / 3));
                Check.same("20 speed of " + k, sea.speed(k % 3, k / 3, 0, 0), other.speed(k % 3, k / 3, 0, 0));
            }
        }
    }

    // ---- promise 21

    /** Promise 21: "False when there is none such". */
    private static void backOfNoState() {
        for (int none : Edges.beyond(0, 3)) {
            Twins.unchanged("21 state " + none, sea -> !sea.back(none));
        }
        for (int saved = 0; saved < 4; saved++) {
            int at = saved;
            Twins.unchanged("21 none yet: " + at, Twins::land, sea -> !sea.back(at));
        }
        for (int saved = 1; saved < 4; saved++) {
            int at = saved;
            Twins.unchanged("21 one alone: " + at, Twins::moving, sea -> !sea.back(at));
        }
        Twins.unchanged("21 kept before the depth was told", Twins::full, sea -> !sea.back(0));
    }

    /** Promise 21: a state of which nothing has changed since, of an empty object, too. */
    private static void backAsSoonAsItIsKept() {
        Sea sea = new Sea(1, 1, 1);
        Check.same("20 land", sea.save(), 0);
        Check.yes("21 at once", sea.back(0));
        Check.yes("21 and again", sea.back(0));
        sea.run(0, 1.0);
        Check.yes("21 after no steps", sea.back(0));
        Check.no("21 the next one is not kept", sea.back(1));
    }

    /** Promise 21: "What was kept is so again": volumes, warmth, salt, mud, speeds, sides. */
    private static void backBringsAll() {
        Sea sea = Twins.moving();
        Check.same("20 state", sea.save(), 1);
        double[] then = numbers(sea);
        sea.run(40, 500.0);
        double[] now = numbers(sea);
        for (int k = 0; k < then.length; k++) {
            boolean moves = now[k] != then[k];
            Check.yes("21 number " + k + " is another or has none", moves || then[k] == 0.0 || then[k] == -1.0e6);
        }
        Check.yes("21 back", sea.back(1));
        same("21 is so again", numbers(sea), then);
        sea.run(40, 500.0);
        same("21 goes on the same", numbers(sea), now);
    }

    /** All that can be read of the cells, faces and sides of a sea of 3 by 2 cells. */
    private static double[] numbers(Sea sea) {
        double[] all = new double[6 * 6 + 4];
        for (int k = 0; k < 6; k++) {
            int i = k % 3;
            int j = k / 3;
            double[] cell = {sea.level(i, j), sea.warm(i, j, 0), sea.salt(i, j, 0), sea.mud(i, j),
                sea.speed(i, j, 0, 0), sea.speed(i, j, 0, 1)};
            System.arraycopy(cell, 0, all, 6 * k, 6);
        }
        for (int side = 0; side < 4; side++) {
            all[36 + side] = sea.through(side);
        }
        return all;
    }

    private static void same(String name, double[] got, double[] due) {
        for (int k = 0; k < due.length; k++) {
            Check.same(name + ": number " + k, got[k], due[k]);
        }
    }

    /** Promise 21: "the time": winds and tides are those of then. */
    private static void backBringsTheTime() {
        Sea sea = new Sea(2, 1, 1);
        sea.wind(0, 10.0, 0.0);
        sea.wind(1, 20.0, 0.0);
        sea.depth(0, 0, 0.0495);
        sea.depth(1, 0, 0.0495);
        sea.run(5, 600.0);
        double s = sea.speed(0, 0, 0, 0);
        sea.save();
        double first = Lines.speed(s, 600.0, 0.0, 10.0);
        for (int turn = 0; turn < 3; turn++) {
            sea.run(1, 600.0);
            Check.same("21 the last step of hour 0", sea.speed(0, 0, 0, 0), first);
            sea.run(1, 600.0);
            Check.same("21 the first of hour 1", sea.speed(0, 0, 0, 0), Lines.speed(first, 600.0, 0.0, 20.0));
            sea.run(20 * turn, 600.0);
            Check.yes("21 back", sea.back(0));
            Check.same("21 its speed", sea.speed(0, 0, 0, 0), s);
        }
    }

    /** Promise 21: "beds": they have their cell's volume again, and when it goes on. */
    private static void backBringsTheBeds() {
        for (int n = 2; n <= 8; n++) {
            Sea sea = Sea.row(10.001, 10.0);
            sea.nest(0, 0, n);
            sea.nest(1, 0, 10 - n);
            sea.river(0, 0, 5.3);
            sea.run(3, 60.0);
            sea.save();
            sea.run(5, 70.0);
            Check.yes("21 back", sea.back(0));
            Check.yes("16 beds are back", sea.equal(0) && sea.equal(1));
            sea.run(5, 90.0);
            Check.yes("16 beds go on", sea.equal(0) && sea.equal(1));
        }
    }

    /** Promise 21: a state stays kept when it is back; so do those kept later. */
    private static void backKeepsWhatWasKept() {
        Sea sea = Sea.row(10.0);
        sea.river(0, 0, 1.0);
        for (int k = 0; k < 4; k++) {
            sea.run(1, 10.0);
            sea.save();
        }
        int[] order = {0, 0, 3, 1, 2, 0, 3};
        for (int k : order) {
            Check.yes("21 back to " + k, sea.back(k));
            Check.same("21 its volume", sea.volume(), 10010 + 10 * k);
            sea.run(1, 7.0);
            Check.same("21 goes on from there", sea.volume(), 10017 + 10 * k);
        }
    }

    /** Promise 20: "all that steps change": rivers, winds, waves, gauges, the fit are not of it. */
    private static void backLeavesWhatStepsDoNotChange() {
        Sea sea = Sea.row(10.0, 10.0);
        sea.save();
        sea.river(0, 0, 3.0);
        sea.wind(0, 50.0, 0.0);
        sea.border(1, 0, 2.0, 0.0);
        sea.gauge(0, 0, 1.0, 0.5);
        sea.fit(0);
        sea.run(1, 60.0);
        double s = sea.speed(0, 0, 0, 0);
        double side = sea.speed(1, 0, 0, 0);
        long volume = sea.volume();
        sea.run(5, 60.0);
        Check.yes("21 back", sea.back(0));
        Check.same("21 no speed", sea.speed(0, 0, 0, 0), 0.0);
        Check.same("21 no speed at the side", sea.speed(1, 0, 0, 0), 0.0);
        Check.same("21 the volume of then", sea.volume(), 20000);
        Check.same("21 the gauge stays", sea.differs(0, 0), 0.5);
        Check.same("21 the fit stays", sea.tide(0.0), 0.5);
        sea.run(1, 60.0);
        Check.same("21 the wind stays", sea.speed(0, 0, 0, 0), s);
        Check.same("21 the wave stays", sea.speed(1, 0, 0, 0), side);
        Check.same("21 the river stays", sea.volume(), volume);
    }

    private static Sea saved() {
        Sea sea = Twins.moving();
        sea.save();
        sea.run(2, 50.0);
        return sea;
    }

    /** Promise 21: "or a depth was told .. since": of any cell, the same depth, land as land. */
    private static void notBackSinceADepth() {
        double[] depths = {9.2, 0.0, -0.0, 1000.0};
        for (double metres : depths) {
            for (int k = 0; k < 6; k++) {
                int at = k;
                Twins.Maker told = () -> {
                    Sea sea = saved();
                    sea.depth(at % 3, at / 3, metres);
                    return sea;
                };
                Twins.unchanged("21 since depth " + metres + " of " + at, told, sea -> !sea.back(1));
                Twins.unchanged("21 nor the first one", told, sea -> !sea.back(0));
            }
        }
        Twins.unchanged("21 land told as land", () -> {
            Sea sea = Twins.land();
            sea.save();
            sea.depth(0, 0, 0.0);
            return sea;
        }, sea -> !sea.back(0));
    }

    /** Promise 21: a depth that was refused was not told. */
    private static void backSinceARefusedDepth() {
        Sea sea = saved();
        Check.no("2 refused", sea.depth(0, 0, 1000.5));
        Check.no("2 refused", sea.depth(3, 0, 5.0));
        Check.no("2 refused", sea.depth(0, -1, 5.0));
        Check.yes("21 back", sea.back(1));
        Check.yes("21 the first one", sea.back(0));
    }

    /** Promise 21: "or a cell parted since". */
    private static void notBackSinceANest() {
        for (int n = 2; n <= 8; n++) {
            int beds = n;
            Twins.unchanged("21 since a nest of " + beds, () -> {
                Sea sea = saved();
                sea.nest(1, 0, beds);
                return sea;
            }, sea -> !sea.back(1));
        }
    }

    /** Promise 21: a nest that was refused parted no cell. */
    private static void backSinceARefusedNest() {
        Sea sea = saved();
        Check.same("15 refused", sea.nest(0, 0, 2), NONE);
        Check.same("15 refused", sea.nest(1, 0, 9), NONE);
        Check.same("15 refused", sea.nest(1, 0, 1), NONE);
        Check.same("15 refused", sea.nest(2, 1, 2), NONE);
        Check.same("15 refused", sea.nest(3, 0, 2), NONE);
        Check.yes("21 back", sea.back(1));
        Check.yes("21 the first one", sea.back(0));
    }

    /** Promise 21: "since": what was kept behind the depth, or behind the nest, comes back. */
    private static void backOfAStateKeptSince() {
        Sea sea = saved();
        sea.depth(0, 0, 8.0);
        Check.same("20 kept since", sea.save(), 2);
        double[] then = numbers(sea);
        sea.run(5, 60.0);
        Check.no("21 not the one before", sea.back(1));
        Check.yes("21 but this one", sea.back(2));
        same("21 as it was", numbers(sea), then);
        Check.same("15 a nest", sea.nest(1, 0, 3), 2);
        Check.no("21 not that one any more", sea.back(2));
        Check.same("20 kept since", sea.save(), 3);
        sea.run(5, 60.0);
        Check.yes("21 but this one", sea.back(3));
        same("21 as it was", numbers(sea), then);
        Check.yes("16 with its beds", sea.equal(2));
    }
}
