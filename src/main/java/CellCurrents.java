/**
 * Currents in a sea of cells: levels that flow over faces by told steps, volumes in whole parts
 * that are never lost, and what goes with them. DOC.md tells what each call answers.
 */
public final class CellCurrents {
    public static final int NONE = -1;

    private static final int MOST_ACROSS = 12;
    private static final int MOST_LAYERS = 4;
    private static final int MOST_STEPS = 200;
    private static final int SIDES = 4;
    private static final int WAVES = 8;
    private static final int HOURS = 24;
    private static final int MOST_NESTS = 10;
    private static final int MOST_BEDS = 8;
    private static final int MOST_STATES = 4;
    private static final int MOST_GAUGES = 40;
    private static final int MOST_FITTED_WAVES = 2;
    private static final int MOST_UNKNOWNS = 1 + 2 * MOST_FITTED_WAVES;
    private static final int DRY_BELOW = 50;

    private final int columns;
    private final int rows;
    private final int layerCount;
    private final Cell[] cells;
    private final Face[] faces;
    private final Side[] sides;
    private final double[] windAlong0;
    private final double[] windAlong1;
    private final Nest[] nests;
    private final State[] states;
    private final TideTable tides;
    private int nestCount;
    private int stateCount;
    private int changes;
    private double time;
    private long told;
    private long fromRivers;

    public CellCurrents(int x, int y, int layers) {
        int across = between(x, MOST_ACROSS);
        int down = between(y, MOST_ACROSS);
        Cell[] sea = newCells(across * down);
        Side[] borders = newSides();
        columns = across;
        rows = down;
        layerCount = between(layers, MOST_LAYERS);
        cells = sea;
        sides = borders;
        faces = newFaces(sea, borders, across, down);
        windAlong0 = new double[HOURS];
        windAlong1 = new double[HOURS];
        nests = newNests();
        states = newStates(sea.length, faceCount(across, down));
        tides = new TideTable();
    }

    public boolean depth(int i, int j, double metres) {
        Cell cell = cellAt(i, j);
        if (cell == null || !inside(metres, 0.0, 1000.0)) {
            return false;
        }
        told = told - cell.parts;
        cell.become(metres);
        told = told + cell.parts;
        for (Face face : faces) {
            face.restAt(cell);
        }
        changes++;
        return true;
    }

    public boolean border(int side, int wave, double size, double phase) {
        Side outside = sideAt(side);
        if (outside == null || wave < 0 || wave >= WAVES) {
            return false;
        }
        if (!inside(size, 0.0, 20.0) || !inside(phase, 0.0, 1.0)) {
            return false;
        }
        outside.tell(wave, size, phase);
        return true;
    }

    public boolean wind(int hour, double u, double v) {
        if (hour < 0 || hour >= HOURS) {
            return false;
        }
        if (!inside(u, -100.0, 100.0) || !inside(v, -100.0, 100.0)) {
            return false;
        }
        windAlong0[hour] = u;
        windAlong1[hour] = v;
        return true;
    }

    public boolean river(int i2, int j2, double rate) {
        Cell cell = waterAt(i2, j2);
        if (cell == null || !inside(rate, 0.0, 1000.0)) {
            return false;
        }
        cell.riverRate = rate;
        return true;
    }

    public int run(int steps, double h) {
        if (steps < 0 || steps > MOST_STEPS || !inside(h, 1.0, 600.0)) {
            return -1;
        }
        for (int n = 0; n < steps; n++) {
            step(h);
        }
        return steps;
    }

    public double level(int i3, int j3) {
        Cell cell = waterAt(i3, j3);
        return cell == null ? noReading() : cell.surface();
    }

    public double speed(int i4, int j4, int layer, int axis) {
        Cell cell = cellAt(i4, j4);
        if (cell == null || !isLayer(layer)) {
            return 0.0;
        }
        for (Face face : faces) {
            if (face.before == cell && face.axis == axis && face.exists()) {
                return face.speed * (1 + 0.25 * (layerCount - 1 - 2 * layer));
            }
        }
        return 0.0;
    }

    public long volume(int limb) {
        return limbOf(allParts(), limb);
    }

    public long through(int side2, int limb) {
        Side side = sideAt(side2);
        return side == null ? NONE : limbOf(side.cameIn, limb);
    }

    public boolean kept() {
        long due = told + fromRivers;
        for (Side side : sides) {
            due = due + side.cameIn;
        }
        return allParts() == due;
    }

    public double warm(int i5, int j5, int layer2) {
        Cell cell = waterAt(i5, j5);
        if (cell == null || !isLayer(layer2)) {
            return noReading();
        }
        return cell.warmth - 0.5 * layer2;
    }

    public double salt(int i6, int j6, int layer3) {
        Cell cell = waterAt(i6, j6);
        if (cell == null || !isLayer(layer3)) {
            return noReading();
        }
        return cell.saltiness + 0.1 * layer3;
    }

    public boolean dry(int i7, int j7) {
        Cell cell = waterAt(i7, j7);
        return cell == null || cell.isDry();
    }

    public int nest(int i8, int j8, int n) {
        Cell cell = waterAt(i8, j8);
        if (cell == null || cell.beds != null || n < 2 || n > MOST_BEDS) {
            return NONE;
        }
        int number = nestCount;
        if (number < 0 || number >= nests.length) {
            return NONE;
        }
        nests[number].settleIn(cell, n);
        nestCount = number + 1;
        changes++;
        return number;
    }

    public boolean equal(int nest2) {
        return nest2 >= 0 && nest2 < nests.length && nests[nest2].agrees();
    }

    public int fit(int waves) {
        if (waves < 0 || waves > MOST_FITTED_WAVES) {
            return NONE;
        }
        return tides.solve(1 + 2 * waves);
    }

    public boolean gauge(int i9, int j9, double hour2, double v2) {
        Cell cell = cellAt(i9, j9);
        if (cell == null || !inside(hour2, 0.0, 1000.0) || !inside(v2, -100.0, 100.0)) {
            return false;
        }
        if (!tides.note(hour2, v2)) {
            return false;
        }
        cell.gauged = true;
        cell.gaugeLevel = v2;
        return true;
    }

    public double tide(double hour3) {
        return inside(hour3, 0.0, 1000.0) ? tides.heightAt(hour3) : 0.0;
    }

    public int save() {
        int number = stateCount;
        if (number < 0 || number >= states.length) {
            return NONE;
        }
        State state = states[number];
        state.keepCells(cells);
        state.keepFaces(faces);
        state.keepNests(nests);
        state.keepSides(sides);
        state.time = time;
        state.fromRivers = fromRivers;
        state.changes = changes;
        stateCount = number + 1;
        return number;
    }

    public boolean back(int saved) {
        if (saved < 0 || saved >= states.length) {
            return false;
        }
        State state = states[saved];
        if (state.changes != changes) {
            return false;
        }
        state.giveCells(cells);
        state.giveFaces(faces);
        state.giveNests(nests);
        state.giveSides(sides);
        time = state.time;
        fromRivers = state.fromRivers;
        return true;
    }

    public double ice(int i10, int j10) {
        Cell cell = waterAt(i10, j10);
        if (cell == null) {
            return 0.0;
        }
        double share = (271.5 - (273.15 + cell.warmth)) * 0.5;
        if (share < 0.0) {
            return 0.0;
        }
        return share > 1.0 ? 1.0 : share;
    }

    public double mud(int i11, int j11) {
        Cell cell = waterAt(i11, j11);
        return cell == null ? 0.0 : cell.silt;
    }

    public double differs(int i12, int j12) {
        Cell cell = waterAt(i12, j12);
        if (cell == null || !cell.gauged) {
            return 0.0;
        }
        return cell.gaugeLevel - cell.surface();
    }

    // ---- a step

    private void step(double h) {
        int hour = (int) Math.floorMod((long) (time / 3600), (long) HOURS);
        for (Cell cell : cells) {
            cell.beginStep();
        }
        for (Side side : sides) {
            side.stand(time);
        }
        // Every face is settled before the first part moves: all is taken from the beginning.
        for (Face face : faces) {
            face.settle(h, face.axis == 0 ? windAlong0[hour] : windAlong1[hour]);
        }
        for (Face face : faces) {
            face.carry();
        }
        for (Cell cell : cells) {
            fromRivers = fromRivers + cell.takeRiver(h);
            cell.endStep(h);
        }
        time = time + h;
    }

    // ---- what the calls share

    private Cell cellAt(int i, int j) {
        if (i < 0 || i >= columns || j < 0 || j >= rows) {
            return null;
        }
        int place = j * columns + i;
        return place < cells.length ? cells[place] : null;
    }

    private Cell waterAt(int i, int j) {
        Cell cell = cellAt(i, j);
        return cell != null && cell.water ? cell : null;
    }

    private Side sideAt(int number) {
        return number < 0 || number >= sides.length ? null : sides[number];
    }

    private boolean isLayer(int layer) {
        return layer >= 0 && layer < layerCount;
    }

    private long allParts() {
        long sum = 0;
        for (Cell cell : cells) {
            sum = sum + cell.parts;
        }
        return sum;
    }

    private static long limbOf(long sum, int limb) {
        if (limb == 0) {
            return sum & 0xFFFFFFFFL;
        }
        return limb == 1 ? sum >> 32 : NONE;
    }

    private static double noReading() {
        return -1.0e6;
    }

    private static int between(int value, int most) {
        return Math.max(1, Math.min(value, most));
    }

    /** Written so that a NaN is outside of every range. */
    private static boolean inside(double value, double least, double most) {
        return value >= least && value <= most;
    }

    private static double sizeOf(double value) {
        return value < 0 ? -value : value;
    }

    /** No u is below 0 (times, hours and phases are not), so the cast finds the whole number below. */
    private static double saw(double u) {
        double f = u - (long) u;
        return f < 0.5 ? 1 - 4 * f : 4 * f - 3;
    }

    // ---- how a new sea is laid out

    private static Cell[] newCells(int count) {
        Cell[] made = new Cell[count];
        for (int k = 0; k < made.length; k++) {
            made[k] = new Cell();
        }
        return made;
    }

    private static Side[] newSides() {
        Side[] made = new Side[SIDES];
        for (int k = 0; k < made.length; k++) {
            made[k] = new Side();
        }
        return made;
    }

    private static Nest[] newNests() {
        Nest[] made = new Nest[MOST_NESTS];
        for (int k = 0; k < made.length; k++) {
            made[k] = new Nest();
        }
        return made;
    }

    private static State[] newStates(int cellCount, int faceCount) {
        State[] made = new State[MOST_STATES];
        for (int k = 0; k < made.length; k++) {
            made[k] = new State(cellCount, faceCount);
        }
        return made;
    }

    private static int faceCount(int across, int down) {
        return (across - 1) * down + across * (down - 1) + 2 * across + 2 * down;
    }

    /** All faces that there may ever be, in the document's order; which exist is asked of each. */
    private static Face[] newFaces(Cell[] sea, Side[] borders, int across, int down) {
        Face[] made = new Face[faceCount(across, down)];
        int n = 0;
        for (int j = 0; j < down; j++) {
            for (int i = 0; i + 1 < across; i++) {
                int place = j * across + i;
                n = put(made, n, new Face(sea, place, place + 1, null, 0));
            }
        }
        for (int j = 0; j + 1 < down; j++) {
            for (int i = 0; i < across; i++) {
                int place = j * across + i;
                n = put(made, n, new Face(sea, place, place + across, null, 1));
            }
        }
        for (int j = 0; j < down; j++) {
            n = put(made, n, new Face(sea, NONE, j * across, borders[0], 0));
        }
        for (int j = 0; j < down; j++) {
            n = put(made, n, new Face(sea, j * across + across - 1, NONE, borders[1], 0));
        }
        for (int i = 0; i < across; i++) {
            n = put(made, n, new Face(sea, NONE, i, borders[2], 1));
        }
        for (int i = 0; i < across; i++) {
            n = put(made, n, new Face(sea, (down - 1) * across + i, NONE, borders[3], 1));
        }
        return made;
    }

    private static int put(Face[] row, int n, Face face) {
        if (n >= 0 && n < row.length) {
            row[n] = face;
        }
        return n + 1;
    }

    /** A cell: land, or water with all that stands in it. */
    private static final class Cell {
        boolean water;
        double metres;
        long parts;
        double warmth;
        double saltiness;
        double silt;
        double riverRate;
        Nest beds;
        boolean gauged;
        double gaugeLevel;
        // These hold only while a step runs.
        long partsAtFirst;
        double surfaceAtFirst;
        double heat;
        double brine;
        double fastest;

        void become(double newDepth) {
            water = newDepth > 0.0;
            metres = newDepth;
            parts = (long) (newDepth * 1000);
            warmth = 10.0;
            saltiness = 35.0;
            silt = 0.0;
            if (beds != null) {
                beds.leave();
                beds = null;
            }
        }

        double surface() {
            return parts * 0.001 - metres;
        }

        boolean isDry() {
            return parts < DRY_BELOW;
        }

        void beginStep() {
            partsAtFirst = parts;
            surfaceAtFirst = surface();
            heat = warmth * parts;
            brine = saltiness * parts;
            fastest = 0.0;
        }

        void feel(double speed) {
            double size = sizeOf(speed);
            if (size > fastest) {
                fastest = size;
            }
        }

        void gain(long amount, double itsWarmth, double itsSalt) {
            parts = parts + amount;
            heat = heat + amount * itsWarmth;
            brine = brine + amount * itsSalt;
        }

        void lose(long amount) {
            parts = parts - amount;
            heat = heat - amount * warmth;
            brine = brine - amount * saltiness;
        }

        long takeRiver(double h) {
            if (!water) {
                return 0;
            }
            long amount = (long) (riverRate * h);
            gain(amount, 12.0, 0.0);
            return amount;
        }

        void endStep(double h) {
            if (parts > 0) {
                warmth = heat / parts;
                saltiness = brine / parts;
            }
            if (fastest > 0.2) {
                silt = silt + 0.001 * h * (fastest - 0.2);
            }
            if (beds != null) {
                beds.grow(parts - partsAtFirst);
            }
        }
    }

    /** A side of the sea, with the waves outside and what came in over it. */
    private static final class Side {
        final double[] sizes = new double[WAVES];
        final double[] phases = new double[WAVES];
        boolean open;
        double surface;
        long cameIn;

        void tell(int wave, double size, double phase) {
            if (wave < 0 || wave >= sizes.length || wave >= phases.length) {
                return;
            }
            sizes[wave] = size;
            phases[wave] = phase;
            open = true;
        }

        /** A wave that was not told has the size 0, and one of the size 0 adds nothing. */
        void stand(double t) {
            surface = 0.0;
            for (int wave = 0; open && wave < sizes.length && wave < phases.length; wave++) {
                if (sizes[wave] > 0.0) {
                    surface = surface + sizes[wave] * saw(t / (3600 * (wave + 1)) + phases[wave]);
                }
            }
        }
    }

    /** A face; the cell before or behind it is null where the outside of its side lies there. */
    private static final class Face {
        final Cell before;
        final Cell behind;
        final Side side;
        final int axis;
        double speed;
        long flow;

        Face(Cell[] sea, int placeBefore, int placeBehind, Side itsSide, int itsAxis) {
            before = placeBefore >= 0 && placeBefore < sea.length ? sea[placeBefore] : null;
            behind = placeBehind >= 0 && placeBehind < sea.length ? sea[placeBehind] : null;
            side = itsSide;
            axis = itsAxis;
        }

        boolean exists() {
            if (before == null || behind == null) {
                return side != null && side.open && (isWater(before) || isWater(behind));
            }
            return before.water && behind.water;
        }

        void restAt(Cell cell) {
            if (before == cell || behind == cell) {
                speed = 0.0;
            }
        }

        void settle(double h, double wind) {
            flow = 0;
            if (!exists()) {
                return;
            }
            double d = surfaceOf(before) - surfaceOf(behind);
            speed = (speed + h * (0.00981 * d + 0.00001 * wind)) / (1 + 0.002 * h * sizeOf(speed));
            flow = limited((long) (speed * h * (lesserParts() * 0.001)));
            if (before != null) {
                before.feel(speed);
            }
            if (behind != null) {
                behind.feel(speed);
            }
        }

        void carry() {
            if (flow == 0) {
                return;
            }
            Cell from = flow < 0 ? behind : before;
            Cell to = flow < 0 ? before : behind;
            long amount = flow < 0 ? -flow : flow;
            if (to != null) {
                to.gain(amount, from == null ? 8.0 : from.warmth, from == null ? 34.0 : from.saltiness);
            }
            if (from != null) {
                from.lose(amount);
            }
            if (side != null) {
                side.cameIn = side.cameIn + (from == null ? amount : -amount);
            }
        }

        private double surfaceOf(Cell cell) {
            if (cell != null) {
                return cell.surfaceAtFirst;
            }
            return side == null ? 0.0 : side.surface;
        }

        private long lesserParts() {
            long most = Long.MAX_VALUE;
            if (before != null) {
                most = Math.min(most, before.parts);
            }
            return behind == null ? most : Math.min(most, behind.parts);
        }

        /** The outside gives whatever is asked of it; a cell gives an eighth, and nothing when dry. */
        private long limited(long asked) {
            Cell from = asked < 0 ? behind : before;
            if (from == null) {
                return asked;
            }
            if (from.isDry()) {
                return 0;
            }
            long most = from.parts / 8;
            return Math.max(-most, Math.min(most, asked));
        }

        private static boolean isWater(Cell cell) {
            return cell != null && cell.water;
        }
    }

    /** The beds of one cell; empty (without a home) before it, and for good after it. */
    private static final class Nest {
        final long[] shares = new long[MOST_BEDS];
        Cell home;
        int count;

        void settleIn(Cell cell, int n) {
            home = cell;
            count = n;
            cell.beds = this;
            grow(cell.parts);
        }

        void leave() {
            home = null;
        }

        /** What is left over after equal shares goes to the first beds, one part each. */
        void grow(long amount) {
            if (count < 1) {
                return;
            }
            long each = amount / count;
            long over = amount % count;
            long one = over < 0 ? -1 : 1;
            for (int k = 0; k < count && k < shares.length; k++) {
                shares[k] = shares[k] + each + (k < over * one ? one : 0);
            }
        }

        boolean agrees() {
            if (home == null) {
                return false;
            }
            long sum = 0;
            for (int k = 0; k < count && k < shares.length; k++) {
                sum = sum + shares[k];
            }
            return sum == home.parts;
        }
    }

    /** All that steps change, as it was at a save. */
    private static final class State {
        final long[] parts;
        final double[] warmth;
        final double[] saltiness;
        final double[] silt;
        final double[] speeds;
        final long[] shares = new long[MOST_NESTS * MOST_BEDS];
        final long[] cameIn = new long[SIDES];
        double time;
        long fromRivers;
        // A sea never counts so many changes: what was not kept does not come back.
        int changes = NONE;

        State(int cellCount, int faceCount) {
            parts = new long[cellCount];
            warmth = new double[cellCount];
            saltiness = new double[cellCount];
            silt = new double[cellCount];
            speeds = new double[faceCount];
        }

        void keepCells(Cell[] cells) {
            for (int k = 0; k < cellsIn(cells); k++) {
                parts[k] = cells[k].parts;
                warmth[k] = cells[k].warmth;
                saltiness[k] = cells[k].saltiness;
                silt[k] = cells[k].silt;
            }
        }

        void giveCells(Cell[] cells) {
            for (int k = 0; k < cellsIn(cells); k++) {
                cells[k].parts = parts[k];
                cells[k].warmth = warmth[k];
                cells[k].saltiness = saltiness[k];
                cells[k].silt = silt[k];
            }
        }

        void keepFaces(Face[] faces) {
            for (int k = 0; k < faces.length && k < speeds.length; k++) {
                speeds[k] = faces[k].speed;
            }
        }

        void giveFaces(Face[] faces) {
            for (int k = 0; k < faces.length && k < speeds.length; k++) {
                faces[k].speed = speeds[k];
            }
        }

        void keepNests(Nest[] nests) {
            for (int k = 0; k < shares.length && k / MOST_BEDS < nests.length; k++) {
                shares[k] = nests[k / MOST_BEDS].shares[k % MOST_BEDS];
            }
        }

        void giveNests(Nest[] nests) {
            for (int k = 0; k < shares.length && k / MOST_BEDS < nests.length; k++) {
                nests[k / MOST_BEDS].shares[k % MOST_BEDS] = shares[k];
            }
        }

        void keepSides(Side[] sides) {
            for (int k = 0; k < sides.length && k < cameIn.length; k++) {
                cameIn[k] = sides[k].cameIn;
            }
        }

        void giveSides(Side[] sides) {
            for (int k = 0; k < sides.length && k < cameIn.length; k++) {
                sides[k].cameIn = cameIn[k];
            }
        }

        private int cellsIn(Cell[] cells) {
            return Math.min(cells.length, parts.length);
        }
    }

    /** What gauges told, and the tide that was fitted to it last. */
    private static final class TideTable {
        final double[] hours = new double[MOST_GAUGES];
        final double[] levels = new double[MOST_GAUGES];
        final double[][] sums = new double[MOST_UNKNOWNS][MOST_UNKNOWNS];
        final double[] sumsOfLevels = new double[MOST_UNKNOWNS];
        final boolean[] pivots = new boolean[MOST_UNKNOWNS];
        final double[] saws = new double[MOST_UNKNOWNS];
        final double[] numbers = new double[MOST_UNKNOWNS];
        int noted;
        int fitted;

        boolean note(double hour, double level) {
            int place = noted;
            if (place < 0 || place >= hours.length || place >= levels.length) {
                return false;
            }
            hours[place] = hour;
            levels[place] = level;
            noted = place + 1;
            return true;
        }

        int solve(int unknowns) {
            int n = Math.min(unknowns, MOST_UNKNOWNS);
            addUp(n);
            int found = clearBelow(n);
            solveUpwards(n);
            fitted = n;
            return found;
        }

        double heightAt(double hour) {
            if (fitted == 0) {
                return 0.0;
            }
            fillSaws(hour, fitted);
            double sum = numbers[0];
            for (int k = 1; k < fitted && k < numbers.length; k++) {
                sum = sum + numbers[k] * saws[k];
            }
            return sum;
        }

        private void addUp(int n) {
            for (int r = 0; r < n; r++) {
                sumsOfLevels[r] = 0.0;
                for (int c = 0; c < n; c++) {
                    sums[r][c] = 0.0;
                }
            }
            for (int g = 0; g < noted && g < hours.length; g++) {
                fillSaws(hours[g], n);
                for (int r = 0; r < n; r++) {
                    sumsOfLevels[r] = sumsOfLevels[r] + saws[r] * levels[g];
                    for (int c = 0; c < n; c++) {
                        sums[r][c] = sums[r][c] + saws[r] * saws[c];
                    }
                }
            }
        }

        /** How many columns had a pivot. */
        private int clearBelow(int n) {
            int found = 0;
            for (int c = 0; c < n; c++) {
                double pivot = sums[c][c];
                pivots[c] = sizeOf(pivot) > 1.0e-9;
                if (pivots[c]) {
                    found++;
                    for (int r = c + 1; r < n; r++) {
                        subtractRow(r, c, sums[r][c] / pivot, n);
                    }
                }
            }
            return found;
        }

        private void subtractRow(int r, int c, double times, int n) {
            for (int k = c; k < n; k++) {
                sums[r][k] = sums[r][k] - times * sums[c][k];
            }
            sumsOfLevels[r] = sumsOfLevels[r] - times * sumsOfLevels[c];
        }

        private void solveUpwards(int n) {
            for (int c = n - 1; c >= 0; c--) {
                double rest = sumsOfLevels[c];
                for (int k = c + 1; k < n; k++) {
                    rest = rest - sums[c][k] * numbers[k];
                }
                numbers[c] = pivots[c] ? rest / sums[c][c] : 0.0;
            }
        }

        /** 1.0, then two saws for each wave, of an hour. */
        private void fillSaws(double hour, int n) {
            double t = hour * 3600;
            saws[0] = 1.0;
            for (int k = 1; k + 1 < n; k += 2) {
                double turns = t / (3600 * ((k + 1) / 2));
                saws[k] = saw(turns);
                saws[k + 1] = saw(turns + 0.25);
            }
        }
    }
}
