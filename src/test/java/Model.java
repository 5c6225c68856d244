import java.util.ArrayList;
import java.util.List;

/**
 * The document once more, as plainly as it can be written and held in another way than the class:
 * rows of numbers by i and j, and the faces looked for anew in each step. It has the whole face, with
 * all that is refused; ModelTests sets both side by side.
 */
final class Model {
    private static final double NOWHERE = -1.0e6;

    final int x;
    final int y;
    final int layers;
    private final boolean[][] water;
    private final double[][] depth;
    private long[][] volume;
    private double[][] warmth;
    private double[][] salt;
    private double[][] mud;
    private final double[][] river;
    private final int[][] nestOf;
    private final Double[][] gauge;
    /** Speeds by face: axis 0, axis 1 (of the cell before it), sides 0 to 3 (of their cell). */
    private final double[][][] speed;
    private final double[][] waveSize = new double[4][8];
    private final double[][] wavePhase = new double[4][8];
    private final boolean[][] waveTold = new boolean[4][8];
    private final double[][] wind = new double[2][24];
    private long[] through = new long[4];
    private double t = 0.0;
    /** What there has to be: all that depth() told, less what it took, and what rivers brought. */
    private long told = 0;
    private long brought = 0;
    private List<long[]> nests = new ArrayList<>();
    private final List<double[]> gauges = new ArrayList<>();
    private double[] numbers = null;
    private final List<Object[]> saves = new ArrayList<>();
    private final List<List<long[]>> keptNests = new ArrayList<>();
    private int generation = 0;

    Model(int x, int y, int layers) {
        this.x = Math.min(12, Math.max(1, x));
        this.y = Math.min(12, Math.max(1, y));
        this.layers = Math.min(4, Math.max(1, layers));
        water = new boolean[this.x][this.y];
        depth = new double[this.x][this.y];
        volume = new long[this.x][this.y];
        warmth = new double[this.x][this.y];
        salt = new double[this.x][this.y];
        mud = new double[this.x][this.y];
        river = new double[this.x][this.y];
        nestOf = new int[this.x][this.y];
        gauge = new Double[this.x][this.y];
        speed = new double[6][this.x][this.y];
        for (int[] row : nestOf) {
            java.util.Arrays.fill(row, -1);
        }
    }

    // ---- the face

    boolean depth(int i, int j, double metres) {
        if (!isCell(i, j) || !in(metres, 0, 1000)) {
            return false;
        }
        told -= volume[i][j];
        tellDepth(i, j, metres);
        told += volume[i][j];
        return true;
    }

    boolean border(int side, int wave, double size, double phase) {
        if (!in(side, 0, 3) || !in(wave, 0, 7) || !in(size, 0, 20) || !in(phase, 0, 1)) {
            return false;
        }
        waveTold[side][wave] = true;
        waveSize[side][wave] = size;
        wavePhase[side][wave] = phase;
        return true;
    }

    boolean wind(int hour, double u, double v) {
        if (!in(hour, 0, 23) || !in(u, -100, 100) || !in(v, -100, 100)) {
            return false;
        }
        wind[0][hour] = u;
        wind[1][hour] = v;
        return true;
    }

    boolean river(int i, int j, double rate) {
        if (!there(i, j) || !in(rate, 0, 1000)) {
            return false;
        }
        river[i][j] = rate;
        return true;
    }

    int run(int steps, double h) {
        if (!in(steps, 0, 200) || !in(h, 1, 600)) {
            return -1;
        }
        for (int n = 0; n < steps; n++) {
            step(h);
        }
        return steps;
    }

    double level(int i, int j) {
        return there(i, j) ? levelAt(i, j) : NOWHERE;
    }

    double speed(int i, int j, int layer, int axis) {
        if (!there(i, j) || !in(layer, 0, layers - 1)) {
            return 0.0;
        }
        for (int[] face : faces()) {
            int[] a = beforeOf(face);
            if (a != null && a[0] == i && a[1] == j && axisOf(face) == axis) {
                return speed[face[0]][i][j] * (1 + 0.25 * (layers - 1 - 2 * layer));
            }
        }
        return 0.0;
    }

    long volume(int limb) {
        return limb(all(), limb);
    }

    long through(int side, int limb) {
        return in(side, 0, 3) ? limb(through[side], limb) : -1;
    }

    boolean kept() {
        return all() == told + brought + through[0] + through[1] + through[2] + through[3];
    }

    double warm(int i, int j, int layer) {
        return there(i, j) && in(layer, 0, layers - 1) ? warmth[i][j] - 0.5 * layer : NOWHERE;
    }

    double salt(int i, int j, int layer) {
        return there(i, j) && in(layer, 0, layers - 1) ? salt[i][j] + 0.1 * layer : NOWHERE;
    }

    boolean dry(int i, int j) {
        return !there(i, j) || volume[i][j] < 50;
    }

    int nest(int i, int j, int n) {
        return there(i, j) && in(n, 2, 8) ? part(i, j, n) : -1;
    }

    boolean equal(int nest) {
        for (int i = 0; i < x; i++) {
            for (int j = 0; j < y; j++) {
                if (nestOf[i][j] == nest && nest >= 0) {
                    return java.util.Arrays.stream(nests.get(nest)).sum() == volume[i][j];
                }
            }
        }
        return false;
    }

    boolean gauge(int i, int j, double hour, double v) {
        if (!isCell(i, j) || gauges.size() == 40 || !in(hour, 0, 1000) || !in(v, -100, 100)) {
            return false;
        }
        gauges.add(new double[] {hour, v});
        gauge[i][j] = v;
        return true;
    }

    double ice(int i, int j) {
        return there(i, j) ? Math.min(1.0, Math.max(0.0, (271.5 - (273.15 + warmth[i][j])) * 0.5)) : 0.0;
    }

    double mud(int i, int j) {
        return there(i, j) ? mud[i][j] : 0.0;
    }

    double differs(int i, int j) {
        return there(i, j) && gauge[i][j] != null ? gauge[i][j] - levelAt(i, j) : 0.0;
    }

    // ---- how it comes to that

    private static boolean in(double value, double least, double most) {
        return value >= least && value <= most;
    }

    private static long limb(long sum, int limb) {
        return limb == 0 ? sum & 0xFFFFFFFFL : limb == 1 ? sum >> 32 : -1;
    }

    private boolean isCell(int i, int j) {
        return i >= 0 && i < x && j >= 0 && j < y;
    }

    private boolean there(int i, int j) {
        return isCell(i, j) && water[i][j];
    }

    private double levelAt(int i, int j) {
        return volume[i][j] * 0.001 - depth[i][j];
    }

    private boolean open(int side) {
        for (boolean told : waveTold[side]) {
            if (told) {
                return true;
            }
        }
        return false;
    }

    private double outside(int side) {
        double level = 0.0;
        for (int wave = 0; wave < 8; wave++) {
            if (waveTold[side][wave]) {
                level = level + waveSize[side][wave]
                    * Lines.saw(t / (3600 * (wave + 1)) + wavePhase[side][wave]);
            }
        }
        return level;
    }

    private void tellDepth(int i, int j, double metres) {
        water[i][j] = metres != 0.0;
        depth[i][j] = metres;
        volume[i][j] = (long) (metres * 1000);
        warmth[i][j] = 10.0;
        salt[i][j] = 35.0;
        mud[i][j] = 0.0;
        nestOf[i][j] = -1;
        for (int k = 0; k < 6; k++) {
            speed[k][i][j] = 0.0;
        }
        if (i > 0) {
            speed[0][i - 1][j] = 0.0;
        }
        if (j > 0) {
            speed[1][i][j - 1] = 0.0;
        }
        generation++;
    }

    private int part(int i, int j, int n) {
        if (nestOf[i][j] >= 0 || nests.size() == 10) {
            return -1;
        }
        long[] beds = new long[n];
        for (int k = 0; k < n; k++) {
            beds[k] = volume[i][j] / n + (k < volume[i][j] % n ? 1 : 0);
        }
        nestOf[i][j] = nests.size();
        nests.add(beds);
        generation++;
        return nestOf[i][j];
    }

    /** Faces in their order: kind, i, j. */
    private List<int[]> faces() {
        List<int[]> all = new ArrayList<>();
        for (int j = 0; j < y; j++) {
            for (int i = 0; i < x - 1; i++) {
                if (there(i, j) && there(i + 1, j)) {
                    all.add(new int[] {0, i, j});
                }
            }
        }
        for (int j = 0; j < y - 1; j++) {
            for (int i = 0; i < x; i++) {
                if (there(i, j) && there(i, j + 1)) {
                    all.add(new int[] {1, i, j});
                }
            }
        }
        for (int side = 0; side < 4; side++) {
            int length = side < 2 ? y : x;
            for (int k = 0; k < length && open(side); k++) {
                int i = side == 0 ? 0 : side == 1 ? x - 1 : k;
                int j = side == 2 ? 0 : side == 3 ? y - 1 : k;
                if (there(i, j)) {
                    all.add(new int[] {2 + side, i, j});
                }
            }
        }
        return all;
    }

    private static int[] beforeOf(int[] face) {
        return face[0] == 2 || face[0] == 4 ? null : new int[] {face[1], face[2]};
    }

    private static int[] behindOf(int[] face) {
        switch (face[0]) {
            case 0: return new int[] {face[1] + 1, face[2]};
            case 1: return new int[] {face[1], face[2] + 1};
            case 2: case 4: return new int[] {face[1], face[2]};
            default: return null;
        }
    }

    private static int axisOf(int[] face) {
        return face[0] == 0 || face[0] == 2 || face[0] == 3 ? 0 : 1;
    }

    private void step(double h) {
        List<int[]> faces = faces();
        List<Long> flows = new ArrayList<>();
        double[][] fastest = new double[x][y];
        for (int[] face : faces) {
            int[] a = beforeOf(face);
            int[] b = behindOf(face);
            double d = (a == null ? outside(face[0] - 2) : levelAt(a[0], a[1]))
                - (b == null ? outside(face[0] - 2) : levelAt(b[0], b[1]));
            double w = wind[axisOf(face)][(int) ((long) (t / 3600) % 24)];
            double s = speed[face[0]][face[1]][face[2]];
            s = (s + h * (0.00981 * d + 0.00001 * w)) / (1 + 0.002 * h * Math.abs(s));
            speed[face[0]][face[1]][face[2]] = s;
            long m = Math.min(a == null ? Long.MAX_VALUE : volume[a[0]][a[1]],
                b == null ? Long.MAX_VALUE : volume[b[0]][b[1]]);
            long q = (long) (s * h * (m * 0.001));
            int[] giver = q < 0 ? b : a;
            if (giver != null) {
                long v = volume[giver[0]][giver[1]];
                long most = v < 50 ? 0 : v / 8;
                q = q > most ? most : q < -most ? -most : q;
            }
            flows.add(q);
            for (int[] cell : new int[][] {a, b}) {
                if (cell != null && Math.abs(s) > fastest[cell[0]][cell[1]]) {
                    fastest[cell[0]][cell[1]] = Math.abs(s);
                }
            }
        }
        nextVolume = copy(volume);
        nextWarmth = copy(warmth);
        nextSalt = copy(salt);
        for (int j = 0; j < y; j++) {
            for (int i = 0; i < x; i++) {
                if (water[i][j]) {
                    mixLater(i, j, h, faces, flows);
                }
            }
        }
        for (int k = 0; k < faces.size(); k++) {
            int kind = faces.get(k)[0];
            if (kind >= 2) {
                through[kind - 2] += kind % 2 == 0 ? flows.get(k) : -flows.get(k);
            }
        }
        for (int i = 0; i < x; i++) {
            for (int j = 0; j < y; j++) {
                if (nestOf[i][j] >= 0) {
                    grow(nests.get(nestOf[i][j]), nextVolume[i][j] - volume[i][j]);
                }
            }
        }
        volume = nextVolume;
        warmth = nextWarmth;
        salt = nextSalt;
        for (int i = 0; i < x; i++) {
            for (int j = 0; j < y; j++) {
                if (water[i][j] && fastest[i][j] > 0.2) {
                    mud[i][j] = mud[i][j] + 0.001 * h * (fastest[i][j] - 0.2);
                }
            }
        }
        t = t + h;
    }

    private long[][] nextVolume;
    private double[][] nextWarmth;
    private double[][] nextSalt;

    private static void grow(long[] beds, long parts) {
        for (int k = 0; k < beds.length; k++) {
            long over = Math.abs(parts) % beds.length;
            beds[k] += parts / beds.length + (k < over ? Long.signum(parts) : 0);
        }
    }

    /** One cell after the step, from what all cells had at its beginning. */
    private void mixLater(int i, int j, double h, List<int[]> faces, List<Long> flows) {
        double heat = warmth[i][j] * volume[i][j];
        double brine = salt[i][j] * volume[i][j];
        long v = volume[i][j];
        for (int k = 0; k < faces.size(); k++) {
            int[] a = beforeOf(faces.get(k));
            int[] b = behindOf(faces.get(k));
            boolean isBefore = a != null && a[0] == i && a[1] == j;
            boolean isBehind = b != null && b[0] == i && b[1] == j;
            if (!isBefore && !isBehind) {
                continue;
            }
            long in = isBehind ? flows.get(k) : -flows.get(k);
            int[] other = isBehind ? a : b;
            v += in;
            if (in > 0) {
                heat = heat + in * (other == null ? 8.0 : warmth[other[0]][other[1]]);
                brine = brine + in * (other == null ? 34.0 : salt[other[0]][other[1]]);
            } else {
                heat = heat - -in * warmth[i][j];
                brine = brine - -in * salt[i][j];
            }
        }
        long more = (long) (river[i][j] * h);
        v += more;
        brought += more;
        heat = heat + more * 12.0;
        brine = brine + more * 0.0;
        if (v != 0) {
            nextWarmth[i][j] = heat / v;
            nextSalt[i][j] = brine / v;
        }
        nextVolume[i][j] = v;
    }

    private long all() {
        long sum = 0;
        for (long[] row : volume) {
            for (long v : row) {
                sum += v;
            }
        }
        return sum;
    }

    int fit(int waves) {
        if (!in(waves, 0, 2)) {
            return -1;
        }
        int n = 1 + 2 * waves;
        double[][] a = new double[n][n];
        double[] b = new double[n];
        for (double[] one : gauges) {
            double[] f = row(one[0], n);
            for (int r = 0; r < n; r++) {
                b[r] = b[r] + f[r] * one[1];
                for (int c = 0; c < n; c++) {
                    a[r][c] = a[r][c] + f[r] * f[c];
                }
            }
        }
        boolean[] pivot = new boolean[n];
        int count = 0;
        for (int c = 0; c < n; c++) {
            if (!(Math.abs(a[c][c]) > 1.0e-9)) {
                continue;
            }
            pivot[c] = true;
            count++;
            for (int r = c + 1; r < n; r++) {
                double by = a[r][c] / a[c][c];
                for (int k = c; k < n; k++) {
                    a[r][k] = a[r][k] - by * a[c][k];
                }
                b[r] = b[r] - by * b[c];
            }
        }
        numbers = new double[n];
        for (int c = n - 1; c >= 0; c--) {
            double rest = b[c];
            for (int k = c + 1; k < n; k++) {
                rest = rest - a[c][k] * numbers[k];
            }
            numbers[c] = pivot[c] ? rest / a[c][c] : 0.0;
        }
        return count;
    }

    private static double[] row(double hour, int n) {
        double[] f = new double[n];
        double at = hour * 3600;
        f[0] = 1.0;
        for (int wave = 0; 1 + 2 * wave < n; wave++) {
            f[1 + 2 * wave] = Lines.saw(at / (3600 * (wave + 1)));
            f[2 + 2 * wave] = Lines.saw(at / (3600 * (wave + 1)) + 0.25);
        }
        return f;
    }

    double tide(double hour) {
        if (numbers == null || !in(hour, 0, 1000)) {
            return 0.0;
        }
        double[] f = row(hour, numbers.length);
        double sum = numbers[0];
        for (int k = 1; k < numbers.length; k++) {
            sum = sum + numbers[k] * f[k];
        }
        return sum;
    }

    int save() {
        if (saves.size() == 4) {
            return -1;
        }
        double[][][] speeds = new double[6][][];
        for (int k = 0; k < 6; k++) {
            speeds[k] = copy(speed[k]);
        }
        saves.add(new Object[] {copy(volume), copy(warmth), copy(salt), copy(mud), speeds,
            through.clone(), t, generation, brought});
        keptNests.add(copy(nests));
        return saves.size() - 1;
    }

    boolean back(int saved) {
        if (!in(saved, 0, saves.size() - 1) || (Integer) saves.get(saved)[7] != generation) {
            return false;
        }
        Object[] s = saves.get(saved);
        volume = copy((long[][]) s[0]);
        warmth = copy((double[][]) s[1]);
        salt = copy((double[][]) s[2]);
        mud = copy((double[][]) s[3]);
        for (int k = 0; k < 6; k++) {
            speed[k] = copy(((double[][][]) s[4])[k]);
        }
        through = ((long[]) s[5]).clone();
        t = (Double) s[6];
        brought = (Long) s[8];
        nests = copy(keptNests.get(saved));
        return true;
    }

    private static List<long[]> copy(List<long[]> rows) {
        List<long[]> made = new ArrayList<>();
        for (long[] row : rows) {
            made.add(row.clone());
        }
        return made;
    }

    private static double[][] copy(double[][] rows) {
        double[][] made = new double[rows.length][];
        for (int k = 0; k < rows.length; k++) {
            made[k] = rows[k].clone();
        }
        return made;
    }

    private static long[][] copy(long[][] rows) {
        long[][] made = new long[rows.length][];
        for (int k = 0; k < rows.length; k++) {
            made[k] = rows[k].clone();
        }
        return made;
    }
}
