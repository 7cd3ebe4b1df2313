/**
 * Runs of calls on the program and on the model side by side; every answer must be the same. The
 * program keeps no count of calls, so the runs are longer than the 512 that are promised.
 */
public final class ModelTest {
    private static final int RUNS = 1500;
    private static final int CALLS = 300;

    private final LayeredBits bits = new LayeredBits();
    private final Model model = new Model();
    private final String name;
    private long seed;

    private ModelTest(int run) {
        name = "run " + run;
        seed = run;
    }

    public static void main(String[] args) {
        for (int run = 0; run < RUNS; run++) {
            new ModelTest(run).run();
        }
        Check.finish();
    }

    private int below(int bound) {
        seed = seed * 6364136223846793005L + 1442695040888963407L;
        return (int) ((seed >>> 33) % bound);
    }

    private void run() {
        for (int i = 0; i < CALLS; i++) {
            call();
            if (below(10) == 0) {
                sameState();
            }
        }
        sameState();
    }

    private void both(String call, Check.Call mine, Check.Call due) {
        Check.due(name + ": " + call, Check.outcome(mine), Check.outcome(due));
    }

    private void both(String call, Check.Action mine, Check.Action due) {
        Check.due(name + ": " + call, Check.outcome(mine), Check.outcome(due));
    }

    private void call() {
        switch (below(17)) {
            case 0 -> clear(below(19) - 1, below(19) - 1);
            case 1, 2 -> set(below(20) - 2, below(20) - 2, below(9) == 0 ? below(9) - 3 : below(2));
            case 3 -> row(below(19) - 1, below(65536) * (below(5) == 0 ? -77777 : 1));
            case 4 -> fillPicture();
            case 5 -> both("halve()", () -> bits.halve(), () -> model.halve());
            case 6, 7 -> write(below(12) == 0 ? below(9) - 3 : 1 + below(3));
            case 8, 9 -> read(below(5) - 1);
            case 10, 11 -> poke(below(model.file.size() + 2) - 1, strangeByte());
            case 12 -> type(((long) below(1 << 30) << 34) ^ below(1 << 30), below(20) == 0 ? below(11) - 1 : 1 + below(2));
            case 13 -> cut(below(model.file.size() + 3) - 1);
            case 14 -> typeFile();
            case 15 -> typeFileWithoutPlainRows();
            default -> told(below(5) - 1);
        }
    }

    private int strangeByte() {
        int[] some = {255, 0, 2, 7, 74, 66, 1, 3, 16, -1, 256};
        return below(2) == 0 ? some[below(some.length)] : below(256);
    }

    private void fillPicture() {
        clear(1 + below(16), 1 + below(16));
        int kind = below(5);
        int mask = below(65536);
        for (int y = 0; y < model.picture.length; y++) {
            int line = kind == 0 ? below(65536) : kind == 1 ? below(65536) | below(65536) : mask;
            line = kind == 4 ? 1 << below(40) : line;
            if (kind == 3 && below(4) == 0) {
                mask = below(65536) & below(65536) | mask;
            }
            row(y, line);
        }
    }

    /** A file that is often as it should be, with remarks and any bytes in its layers. */
    private void typeFile() {
        cut(0);
        int layers = 1 + below(3);
        type(0x4A42L << 24 | (1L + below(16)) << 16 | (1L + below(16)) << 8 | layers, 5);
        for (int k = 0; k < layers; k++) {
            for (int remarks = below(3); remarks > 0; remarks--) {
                int n = below(5);
                type(0xFF0700L | n, 3);
                for (int i = 0; i < n; i++) {
                    type(strangeByte() & 255, 1);
                }
            }
            int kind = below(3);
            for (int n = below(3) == 0 ? below(90) : below(8); n > 0; n--) {
                int b = kind == 0 ? below(256) : kind == 1 ? 255 - below(3) : below(2);
                type(b == 255 ? 0xFF00 : b, b == 255 ? 2 : 1);
            }
            type(0xFF02, below(30) == 0 ? 1 : 2);
        }
        read(below(layers));
        sameState();
    }

    /** Rows that are the same as those above or below, but were not said to be plain. */
    private void typeFileWithoutPlainRows() {
        Model other = new Model();
        other.neverPlain = true;
        other.clear(1 + below(16), 1 + below(16));
        int line = below(3) == 0 ? below(65536) : 0;
        for (int y = 0; y < other.picture.length; y++) {
            other.row(y, below(9) == 0 ? below(65536) : line);
        }
        int layers = 1 + below(3);
        other.write(layers);
        cut(0);
        for (int b : other.file) {
            type(b, 1);
        }
        read(below(layers));
        sameState();
    }

    private void sameState() {
        Check.due(name + ": width()", bits.width(), model.picture[0].length);
        Check.due(name + ": height()", bits.height(), model.picture.length);
        for (int y = -1; y <= 16; y++) {
            for (int x = -1; x <= 16; x++) {
                Check.due(name + ": get(" + x + ", " + y + ")", bits.get(x, y), Model.pixel(model.picture, x, y));
            }
        }
        Check.due(name + ": size()", bits.size(), model.file.size());
        for (int k = -1; k <= model.file.size(); k++) {
            int at = k;
            both("byteAt(" + k + ")", () -> bits.byteAt(at), () -> model.byteAt(at));
        }
        for (int what = -1; what <= 3; what++) {
            told(what);
        }
    }

    private void clear(int w, int h) {
        both("clear(" + w + ", " + h + ")", () -> bits.clear(w, h), () -> model.clear(w, h));
    }

    private void set(int x, int y, int b) {
        both("set(" + x + ", " + y + ", " + b + ")", () -> bits.set(x, y, b), () -> model.set(x, y, b));
    }

    private void row(int y, int line) {
        both("row(" + y + ", " + line + ")", () -> bits.row(y, line), () -> model.row(y, line));
    }

    private void write(int n) {
        both("write(" + n + ")", () -> bits.write(n), () -> model.write(n));
    }

    private void read(int k) {
        both("read(" + k + ")", () -> bits.read(k), () -> model.read(k));
    }

    private void told(int what) {
        both("told(" + what + ")", () -> bits.told(what), () -> model.told(what));
    }

    private void poke(int k, int b) {
        both("poke(" + k + ", " + b + ")", () -> bits.poke(k, b), () -> model.poke(k, b));
    }

    private void type(long bytes, int n) {
        both("type(" + bytes + ", " + n + ")", () -> bits.type(bytes, n), () -> model.type(bytes, n));
    }

    private void cut(int n) {
        both("cut(" + n + ")", () -> bits.cut(n), () -> model.cut(n));
    }
}
