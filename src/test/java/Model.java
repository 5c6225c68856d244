import java.util.ArrayList;
import java.util.List;

/**
 * The document once more, as plainly as it can be written and held in another way than the class:
 * rows of numbers by i and j, and the faces looked for anew in each step. ModelTests sets both side
 * by side. It refuses nothing but what ModelTests asks for.
 */
final class Model {
    final int x;
    final int y;
    final int layers;
    boolean[][] water;
    double[][] depth;
    long[][] volume;
    double[][] warmth;
    double[][] salt;
    double[][] mud;
    double[][] river;
    int[][] nestOf;
    double[][] gauge;
    boolean[][] gauged;
    /** Speeds by face: axis 0, axis 1 (of the cell before it), sides 0 to 3 (of their cell). */
    double[][][] speed;
    double[][] waveSize = new double[4][8];
    double[][] wavePhase = new double[4][8];
    boolean[][] waveTold = new boolean[4][8];
    double[][] wind = new double[2][24];
    long[] through = new long[4];
    double t = 0.0;
    List<long[]> nests = new ArrayList<>();
    List<double[]> gauges = new ArrayList<>();
    double[] numbers = null;
    List<Object[]> saves = new ArrayList<>();
    int generation = 0;

    Model(int x, int y, int layers) {
        this.x = x;
        this.y = y;
        this.layers = layers;
        water = new boolean[x][y];
        depth = new double[x][y];
        volume = new long[x][y];
        warmth = new double[x][y];
        salt = new double[x][y];
        mud = new double[x][y];
        river = new double[x][y];
        nestOf = new int[x][y];
        gauge = new double[x][y];
        gauged = new boolean[x][y];
        speed = new double[6][x][y];
        for (int[] row : nestOf) {
            java.util.Arrays.fill(row, -1);
        }
    }

    boolean open(int side) {
        for (boolean told : waveTold[side]) {
            if (told) {
                return true;
            }
        }
        return false;
    }

    static double saw(double u) {
        double f = u - Math.floor(u);
        return f < 0.5 ? 1 - 4 * f : 4 * f - 3;
    }

    double outside(int side) {
        double level = 0.0;
        for (int wave = 0; wave < 8; wave++) {
            if (waveTold[side][wave]) {
                level = level + waveSize[side][wave]
                    * saw(t / (3600 * (wave + 1)) + wavePhase[side][wave]);
            }
        }
        return level;
    }

    double level(int i, int j) {
        return volume[i][j] * 0.001 - depth[i][j];
    }

    boolean there(int i, int j) {
        return i >= 0 && i < x && j >= 0 && j < y && water[i][j];
    }

    void tellDepth(int i, int j, double metres) {
        water[i][j] = metres != 0.0;
        depth[i][j] = metres;
        volume[i][j] = (long) (metres * 1000);
        warmth[i][j] = 10.0;
        salt[i][j] = 35.0;
        mud[i][j] = 0.0;
        if (nestOf[i][j] >= 0) {
            nests.set(nestOf[i][j], null);
        }
        nestOf[i][j] = -1;
        for (int k = 0; k < 6; k++) {
            speed[k][i][j] = 0.0;
        }
        if (i > 0) {
            speed[0][i - 1][j] = 0.0;
        }
        if (j > 0) {
            speed[1][i][j - 1] = 0.0;
        }
        generation++;
    }

    int part(int i, int j, int n) {
        if (nestOf[i][j] >= 0 || nests.size() == 10) {
            return -1;
        }
        long[] beds = new long[n];
        for (int k = 0; k < n; k++) {
            beds[k] = volume[i][j] / n + (k < volume[i][j] % n ? 1 : 0);
        }
        nestOf[i][j] = nests.size();
        nests.add(beds);
        generation++;
        return nestOf[i][j];
    }

    /** Faces in their order: kind, i, j. */
    private List<int[]> faces() {
        List<int[]> all = new ArrayList<>();
        for (int j = 0; j < y; j++) {
            for (int i = 0; i < x - 1; i++) {
                if (there(i, j) && there(i + 1, j)) {
                    all.add(new int[] {0, i, j});
                }
            }
        }
        for (int j = 0; j < y - 1; j++) {
            for (int i = 0; i < x; i++) {
                if (there(i, j) && there(i, j + 1)) {
                    all.add(new int[] {1, i, j});
                }
            }
        }
        for (int side = 0; side < 4; side++) {
            int length = side < 2 ? y : x;
            for (int k = 0; k < length && open(side); k++) {
                int i = side == 0 ? 0 : side == 1 ? x - 1 : k;
                int j = side == 2 ? 0 : side == 3 ? y - 1 : k;
                if (there(i, j)) {
                    all.add(new int[] {2 + side, i, j});
                }
            }
        }
        return all;
    }

    private static int[] beforeOf(int[] face) {
        return face[0] == 2 || face[0] == 4 ? null : new int[] {face[1], face[2]};
    }

    private static int[] behindOf(int[] face) {
        switch (face[0]) {
            case 0: return new int[] {face[1] + 1, face[2]};
            case 1: return new int[] {face[1], face[2] + 1};
            case 2: case 4: return new int[] {face[1], face[2]};
            default: return null;
        }
    }

    private static int axisOf(int[] face) {
        return face[0] == 0 || face[0] == 2 || face[0] == 3 ? 0 : 1;
    }

    void step(double h) {
        List<int[]> faces = faces();
        List<Long> flows = new ArrayList<>();
        double[][] fastest = new double[x][y];
        for (int[] face : faces) {
            int[] a = beforeOf(face);
            int[] b = behindOf(face);
            double d = (a == null ? outside(face[0] - 2) : level(a[0], a[1]))
                - (b == null ? outside(face[0] - 2) : level(b[0], b[1]));
            double w = wind[axisOf(face)][(int) ((long) (t / 3600) % 24)];
            double s = speed[face[0]][face[1]][face[2]];
            s = (s + h * (0.00981 * d + 0.00001 * w)) / (1 + 0.002 * h * Math.abs(s));
            speed[face[0]][face[1]][face[2]] = s;
            long m = Math.min(a == null ? Long.MAX_VALUE : volume[a[0]][a[1]],
                b == null ? Long.MAX_VALUE : volume[b[0]][b[1]]);
            long q = (long) (s * h * (m * 0.001));
            int[] giver = q < 0 ? b : a;
            if (giver != null) {
                long v = volume[giver[0]][giver[1]];
                long most = v < 50 ? 0 : v / 8;
                q = q > most ? most : q < -most ? -most : q;
            }
            flows.add(q);
            for (int[] cell : new int[][] {a, b}) {
                if (cell != null && Math.abs(s) > fastest[cell[0]][cell[1]]) {
                    fastest[cell[0]][cell[1]] = Math.abs(s);
                }
            }
        }
        nextVolume = copy(volume);
        nextWarmth = copy(warmth);
        nextSalt = copy(salt);
        for (int j = 0; j < y; j++) {
            for (int i = 0; i < x; i++) {
                if (water[i][j]) {
                    mixLater(i, j, h, faces, flows);
                }
            }
        }
        for (int k = 0; k < faces.size(); k++) {
            int kind = faces.get(k)[0];
            if (kind >= 2) {
                through[kind - 2] += kind % 2 == 0 ? flows.get(k) : -flows.get(k);
            }
        }
        volume = nextVolume;
        warmth = nextWarmth;
        salt = nextSalt;
        for (int i = 0; i < x; i++) {
            for (int j = 0; j < y; j++) {
                if (water[i][j] && fastest[i][j] > 0.2) {
                    mud[i][j] = mud[i][j] + 0.001 * h * (fastest[i][j] - 0.2);
                }
            }
        }
        t = t + h;
    }

    private long[][] nextVolume;
    private double[][] nextWarmth;
    private double[][] nextSalt;

    /** One cell after the step, from what all cells had at its beginning. */
    private void mixLater(int i, int j, double h, List<int[]> faces, List<Long> flows) {
        double heat = warmth[i][j] * volume[i][j];
        double brine = salt[i][j] * volume[i][j];
        long v = volume[i][j];
        for (int k = 0; k < faces.size(); k++) {
            int[] a = beforeOf(faces.get(k));
            int[] b = behindOf(faces.get(k));
            boolean isBefore = a != null && a[0] == i && a[1] == j;
            boolean isBehind = b != null && b[0] == i && b[1] == j;
            if (!isBefore && !isBehind) {
                continue;
            }
            long in = isBehind ? flows.get(k) : -flows.get(k);
            int[] other = isBehind ? a : b;
            v += in;
            if (in > 0) {
                heat = heat + in * (other == null ? 8.0 : warmth[other[0]][other[1]]);
                brine = brine + in * (other == null ? 34.0 : salt[other[0]][other[1]]);
            } else {
                heat = heat - -in * warmth[i][j];
                brine = brine - -in * salt[i][j];
            }
        }
        long more = (long) (river[i][j] * h);
        v += more;
        heat = heat + more * 12.0;
        brine = brine + more * 0.0;
        if (v != 0) {
            nextWarmth[i][j] = heat / v;
            nextSalt[i][j] = brine / v;
        }
        nextVolume[i][j] = v;
    }

    double speedBehind(int i, int j, int layer, int axis) {
        for (int[] face : faces()) {
            int[] a = beforeOf(face);
            if (a != null && a[0] == i && a[1] == j && axisOf(face) == axis && layer < layers) {
                return speed[face[0]][i][j] * (1 + 0.25 * (layers - 1 - 2 * layer));
            }
        }
        return 0.0;
    }

    long all() {
        long sum = 0;
        for (long[] row : volume) {
            for (long v : row) {
                sum += v;
            }
        }
        return sum;
    }

    int fit(int waves) {
        int n = 1 + 2 * waves;
        double[][] a = new double[n][n];
        double[] b = new double[n];
        for (double[] told : gauges) {
            double[] f = row(told[0], n);
            for (int r = 0; r < n; r++) {
                b[r] = b[r] + f[r] * told[1];
                for (int c = 0; c < n; c++) {
                    a[r][c] = a[r][c] + f[r] * f[c];
                }
            }
        }
        boolean[] pivot = new boolean[n];
        int count = 0;
        for (int c = 0; c < n; c++) {
            if (!(Math.abs(a[c][c]) > 1.0e-9)) {
                continue;
            }
            pivot[c] = true;
            count++;
            for (int r = c + 1; r < n; r++) {
                double by = a[r][c] / a[c][c];
                for (int k = c; k < n; k++) {
                    a[r][k] = a[r][k] - by * a[c][k];
                }
                b[r] = b[r] - by * b[c];
            }
        }
        numbers = new double[n];
        for (int c = n - 1; c >= 0; c--) {
            double rest = b[c];
            for (int k = c + 1; k < n; k++) {
                rest = rest - a[c][k] * numbers[k];
            }
            numbers[c] = pivot[c] ? rest / a[c][c] : 0.0;
        }
        return count;
    }

    private static double[] row(double hour, int n) {
        double[] f = new double[n];
        double at = hour * 3600;
        f[0] = 1.0;
        for (int wave = 0; 1 + 2 * wave < n; wave++) {
            f[1 + 2 * wave] = saw(at / (3600 * (wave + 1)));
            f[2 + 2 * wave] = saw(at / (3600 * (wave + 1)) + 0.25);
        }
        return f;
    }

    double tide(double hour) {
        if (numbers == null) {
            return 0.0;
        }
        double[] f = row(hour, numbers.length);
        double sum = numbers[0];
        for (int k = 1; k < numbers.length; k++) {
            sum = sum + numbers[k] * f[k];
        }
        return sum;
    }

    int save() {
        if (saves.size() == 4) {
            return -1;
        }
        double[][][] speeds = new double[6][][];
        for (int k = 0; k < 6; k++) {
            speeds[k] = copy(speed[k]);
        }
        saves.add(new Object[] {copy(volume), copy(warmth), copy(salt), copy(mud), speeds,
            through.clone(), t, generation});
        return saves.size() - 1;
    }

    boolean back(int saved) {
        if (saved >= saves.size() || (Integer) saves.get(saved)[7] != generation) {
            return false;
        }
        Object[] s = saves.get(saved);
        volume = copy((long[][]) s[0]);
        warmth = copy((double[][]) s[1]);
        salt = copy((double[][]) s[2]);
        mud = copy((double[][]) s[3]);
        for (int k = 0; k < 6; k++) {
            speed[k] = copy(((double[][][]) s[4])[k]);
        }
        through = ((long[]) s[5]).clone();
        t = (Double) s[6];
        return true;
    }

    private static double[][] copy(double[][] rows) {
        double[][] made = new double[rows.length][];
        for (int k = 0; k < rows.length; k++) {
            made[k] = rows[k].clone();
        }
        return made;
    }

    private static long[][] copy(long[][] rows) {
        long[][] made = new long[rows.length][];
        for (int k = 0; k < rows.length; k++) {
            made[k] = rows[k].clone();
        }
        return made;
    }
}
