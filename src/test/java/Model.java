import java.math.BigInteger;
import java.util.ArrayList;
import java.util.Arrays;
import java.util.EnumSet;
import java.util.List;
import java.util.Set;

/**
 * The document's words once more, in another way than the program: the code is one BigInteger, and
 * a decision is taken by trying which one puts the number between code and code + span.
 */
final class Model {
    private static final int[] Q = {
        23068, 19000, 15000, 12000, 9600, 7600, 6000, 4800, 3800, 3000, 2400, 1900,
        1500, 1200, 950, 750, 600, 480, 380, 300, 240, 190, 150, 120
    };

    /** What the document's sentences on decisions and bytes tell apart; each may happen or not in a layer. */
    enum Edge {
        HALF_IS_ALL, NEARLY_HALF_IS_NOT_ALL, DOUBLED_TO_HALF,
        FAVOURITE_ABOVE, FAVOURITE_AT_Q, OTHER_BELOW, OTHER_AT_Q,
        STATE_STAYS_23, STATE_23_FALLS, STATE_2_FALLS, STATE_1_FALLS, FAVOURITE_CHANGES, FAVOURITE_COMES_BACK,
        LONG_CARRY, NO_BYTES, WHOLE_BYTES, FILLED_BYTE, FIRST_BYTE_0, INNER_BYTE_0, SEVERAL_LAST_BYTES_0,
        FIRST_BYTE_255, LAST_BYTE_255, TWO_BYTES_255
    }

    /** Which edges the layer that was read or written latest has met. */
    Set<Edge> met = EnumSet.noneOf(Edge.class);

    int[][] picture = new int[1][1];
    List<Integer> file = new ArrayList<>();
    int[] told = null;

    /** Writes rows pixel by pixel, also plain ones: no file that is written is so, but it can be read. */
    boolean neverPlain = false;

    static int pixel(int[][] p, int x, int y) {
        return y >= 0 && y < p.length && x >= 0 && x < p[0].length ? p[y][x] : 0;
    }

    static int[][] half(int[][] p) {
        int[][] h = new int[(p.length + 1) / 2][(p[0].length + 1) / 2];
        for (int y = 0; y < h.length; y++) {
            for (int x = 0; x < h[0].length; x++) {
                int t = 0;
                for (int dy = -1; dy <= 2; dy++) {
                    for (int dx = -1; dx <= 2; dx++) {
                        boolean inner = dx >= 0 && dx <= 1 && dy >= 0 && dy <= 1;
                        t += (inner ? 4 : 1) * pixel(p, 2 * x + dx, 2 * y + dy);
                    }
                }
                h[y][x] = t > 14 ? 1 : t < 14 ? 0 : pixel(h, x - 1, y);
            }
        }
        return h;
    }

    /** Code, span and contexts as they stand. */
    static final class Interval {
        int[] state = new int[2563];
        int[] favourite = new int[2563];
        BigInteger code = BigInteger.ZERO;
        int span = 65536;
        int doubled = 0;
        Set<Edge> met = EnumSet.noneOf(Edge.class);

        private void meets(boolean happens, Edge edge) {
            if (happens) {
                met.add(edge);
            }
        }

        private void meetsInDecision(int context, int b) {
            int q = Q[state[context]];
            int rest = span - q;
            boolean favoured = b == favourite[context];
            int at = state[context];
            meets(favoured && rest == 32768, Edge.HALF_IS_ALL);
            // Each Q is even, so that nothing is nearer.
            meets(favoured && rest == 32766, Edge.NEARLY_HALF_IS_NOT_ALL);
            meets(favoured && rest < q, Edge.FAVOURITE_ABOVE);
            meets(favoured && rest == q, Edge.FAVOURITE_AT_Q);
            meets(!favoured && rest < q, Edge.OTHER_BELOW);
            meets(!favoured && rest == q, Edge.OTHER_AT_Q);
            meets(favoured && rest < 32768 && at == 23, Edge.STATE_STAYS_23);
            meets(!favoured && at == 23, Edge.STATE_23_FALLS);
            meets(!favoured && at == 2, Edge.STATE_2_FALLS);
            meets(!favoured && at == 1, Edge.STATE_1_FALLS);
            meets(!favoured && at == 0, b == 1 ? Edge.FAVOURITE_CHANGES : Edge.FAVOURITE_COMES_BACK);
        }

        private void meetsInBytes(List<Integer> all, int kept) {
            meets(kept == 0, Edge.NO_BYTES);
            meets(doubled % 8 == 0 && kept == all.size(), Edge.WHOLE_BYTES);
            meets(doubled % 8 != 0 && kept == all.size(), Edge.FILLED_BYTE);
            meets(kept > 0 && kept < all.size() - 1, Edge.SEVERAL_LAST_BYTES_0);
            meets(kept > 0 && all.get(0) == 0, Edge.FIRST_BYTE_0);
            meets(kept > 0 && all.get(0) == 255, Edge.FIRST_BYTE_255);
            meets(kept > 0 && all.get(kept - 1) == 255, Edge.LAST_BYTE_255);
            for (int i = 1; i < kept; i++) {
                meets(all.get(i) == 0, Edge.INNER_BYTE_0);
                meets(all.get(i) == 255 && all.get(i - 1) == 255, Edge.TWO_BYTES_255);
            }
        }

        /** What put() would make of code and span, before any doubling: {how much code grows, span}. */
        int[] part(int context, int b) {
            int q = Q[state[context]];
            int rest = span - q;
            if (b == favourite[context]) {
                return rest < 32768 && rest < q ? new int[] {rest, q} : new int[] {0, rest};
            }
            return rest < q ? new int[] {0, rest} : new int[] {rest, q};
        }

        void put(int context, int b) {
            int rest = span - Q[state[context]];
            int[] part = part(context, b);
            meetsInDecision(context, b);
            BigInteger grown = code.add(BigInteger.valueOf(part[0]));
            meets(grown.xor(code).bitLength() > 32, Edge.LONG_CARRY);
            code = grown;
            span = part[1];
            if (b == favourite[context]) {
                if (rest < 32768 && state[context] < 23) {
                    state[context]++;
                }
            } else if (state[context] == 0) {
                favourite[context] = b;
            } else {
                state[context] = state[context] == 1 ? 0 : state[context] - 2;
            }
            boolean doubles = span < 32768;
            while (span < 32768) {
                span *= 2;
                code = code.shiftLeft(1);
                doubled++;
            }
            meets(doubles && span == 32768, Edge.DOUBLED_TO_HALF);
        }

        int take(int context, BigInteger number, int digits) {
            int shift = digits - 16 - doubled;
            BigInteger cut = shift >= 0 ? number.shiftRight(shift) : number.shiftLeft(-shift);
            for (int b = 0; b <= 1; b++) {
                int[] part = part(context, b);
                BigInteger low = code.add(BigInteger.valueOf(part[0]));
                BigInteger high = low.add(BigInteger.valueOf(part[1]));
                if (cut.compareTo(low) >= 0 && cut.compareTo(high) < 0) {
                    put(context, b);
                    return b;
                }
            }
            throw new AssertionError("no decision fits");
        }

        List<Integer> bytes() {
            int digits = 16 + doubled;
            int whole = (digits + 7) / 8 * 8;
            BigInteger filled = code.shiftLeft(whole - digits);
            List<Integer> out = new ArrayList<>();
            for (int i = whole - 8; i >= 0; i -= 8) {
                out.add(filled.shiftRight(i).intValue() & 255);
            }
            int kept = out.size();
            while (kept > 0 && out.get(kept - 1) == 0) {
                kept--;
            }
            meetsInBytes(out, kept);
            return out.subList(0, kept);
        }
    }

    static int plain(int k, int[][] layer, int[][] below, int x, int y) {
        return k == 0 ? pixel(layer, x, y - 1) : pixel(below, x / 2, y / 2);
    }

    static int context(int k, int[][] p, int[][] below, int x, int y) {
        if (k == 0) {
            return 512 * pixel(p, x - 4, y) + 256 * pixel(p, x - 3, y) + 128 * pixel(p, x - 2, y)
                + 64 * pixel(p, x - 1, y) + 32 * pixel(p, x - 2, y - 1) + 16 * pixel(p, x - 1, y - 1)
                + 8 * pixel(p, x, y - 1) + 4 * pixel(p, x + 1, y - 1) + 2 * pixel(p, x + 2, y - 1)
                + pixel(p, x, y - 2);
        }
        int u = x / 2;
        int v = y / 2;
        int side = (x & 1) == 0 ? u - 1 : u + 1;
        int over = (y & 1) == 0 ? v - 1 : v + 1;
        return 512 * k + 512 + 256 * (x & 1) + 128 * (y & 1) + 64 * pixel(below, u, v)
            + 32 * pixel(below, side, v) + 16 * pixel(below, u, over) + 8 * pixel(p, x - 1, y)
            + 4 * pixel(p, x - 1, y - 1) + 2 * pixel(p, x, y - 1) + pixel(p, x + 1, y - 1);
    }

    private List<Integer> putLayer(int k, int[][] layer, int[][] below) {
        Interval interval = new Interval();
        int decisions = 0;
        int plainRows = 0;
        for (int y = 0; y < layer.length; y++) {
            boolean plain = !neverPlain;
            for (int x = 0; x < layer[0].length; x++) {
                plain &= layer[y][x] == plain(k, layer, below, x, y);
            }
            interval.put(2560 + k, plain ? 1 : 0);
            decisions++;
            plainRows += plain ? 1 : 0;
            for (int x = 0; x < layer[0].length && !plain; x++) {
                interval.put(context(k, layer, below, x, y), layer[y][x]);
                decisions++;
            }
        }
        told = new int[] {decisions, plainRows, interval.doubled};
        met = interval.met;
        return interval.bytes();
    }

    private int[][] takeLayer(int k, int width, int height, int[][] below, List<Integer> bytes) {
        BigInteger number = BigInteger.ZERO;
        for (int b : bytes) {
            number = number.shiftLeft(8).or(BigInteger.valueOf(b));
        }
        Interval interval = new Interval();
        int[][] layer = new int[height][width];
        int decisions = 0;
        int plainRows = 0;
        for (int y = 0; y < height; y++) {
            boolean plain = interval.take(2560 + k, number, 8 * bytes.size()) == 1;
            decisions++;
            plainRows += plain ? 1 : 0;
            for (int x = 0; x < width; x++) {
                if (plain) {
                    layer[y][x] = plain(k, layer, below, x, y);
                } else {
                    layer[y][x] = interval.take(context(k, layer, below, x, y), number, 8 * bytes.size());
                    decisions++;
                }
            }
        }
        told = new int[] {decisions, plainRows, interval.doubled};
        met = interval.met;
        return layer;
    }

    void clear(int width, int height) {
        if (width < 1 || width > 16 || height < 1 || height > 16) {
            throw new IllegalArgumentException();
        }
        picture = new int[height][width];
    }

    int set(int x, int y, int b) {
        if (x < 0 || y < 0 || x >= picture[0].length || y >= picture.length) {
            throw new IndexOutOfBoundsException();
        }
        if (b < 0 || b > 1) {
            throw new IllegalArgumentException();
        }
        int was = picture[y][x];
        picture[y][x] = b;
        return was;
    }

    void row(int y, int bits) {
        if (y < 0 || y >= picture.length) {
            throw new IndexOutOfBoundsException();
        }
        int rest = bits;
        for (int x = picture[0].length - 1; x >= 0; x--) {
            picture[y][x] = rest & 1;
            rest >>>= 1;
        }
    }

    void halve() {
        picture = half(picture);
    }

    int write(int layers) {
        if (layers < 1 || layers > 3) {
            throw new IllegalArgumentException();
        }
        int[][][] all = new int[layers][][];
        all[layers - 1] = picture;
        for (int k = layers - 2; k >= 0; k--) {
            all[k] = half(all[k + 1]);
        }
        file = new ArrayList<>(Arrays.asList(74, 66, picture[0].length, picture.length, layers));
        for (int k = 0; k < layers; k++) {
            for (int b : putLayer(k, all[k], k == 0 ? null : all[k - 1])) {
                file.add(b);
                if (b == 255) {
                    file.add(0);
                }
            }
            file.add(255);
            file.add(2);
        }
        return file.size();
    }

    /** Byte k, or -1 at the end. */
    private int peek(int k) {
        return k < file.size() ? file.get(k) : -1;
    }

    /** Finds the bytes of each layer: the place at which the file fails, or -1. */
    private int look(List<List<Integer>> found) {
        int[][] head = {{74, 74}, {66, 66}, {1, 16}, {1, 16}, {1, 3}};
        for (int i = 0; i < 5; i++) {
            if (peek(i) < head[i][0] || peek(i) > head[i][1]) {
                return i;
            }
        }
        int at = 5;
        while (found.size() < peek(4)) {
            List<Integer> bytes = new ArrayList<>();
            boolean open = true;
            while (open) {
                int b = peek(at);
                if (b == -1) {
                    return at;
                }
                at++;
                if (b != 255) {
                    bytes.add(b);
                    continue;
                }
                int mark = peek(at);
                if (mark == 0) {
                    bytes.add(255);
                } else if (mark == 2) {
                    open = false;
                } else if (mark == 7 && bytes.isEmpty()) {
                    if (peek(at + 1) == -1) {
                        return at + 1;
                    }
                    at += 1 + peek(at + 1);
                    if (at >= file.size()) {
                        return file.size();
                    }
                } else {
                    return at;
                }
                at++;
            }
            found.add(bytes);
        }
        return at < file.size() ? at : -1;
    }

    int read(int layer) {
        if (layer < 0) {
            throw new IllegalArgumentException();
        }
        List<List<Integer>> found = new ArrayList<>();
        int failure = look(found);
        if (failure != -1) {
            return failure;
        }
        if (layer >= found.size()) {
            throw new IllegalStateException();
        }
        int[][] below = null;
        for (int k = 0; k <= layer; k++) {
            int width = file.get(2);
            int height = file.get(3);
            for (int i = k; i < found.size() - 1; i++) {
                width = (width + 1) / 2;
                height = (height + 1) / 2;
            }
            below = takeLayer(k, width, height, below, found.get(k));
        }
        picture = below;
        return -1;
    }

    int told(int what) {
        if (what < 0 || what > 2) {
            throw new IllegalArgumentException();
        }
        if (told == null) {
            throw new IllegalStateException();
        }
        return told[what];
    }

    int byteAt(int k) {
        if (k < 0 || k >= file.size()) {
            throw new IndexOutOfBoundsException();
        }
        return file.get(k);
    }

    void poke(int k, int b) {
        byteAt(k);
        if (b < 0 || b > 255) {
            throw new IllegalArgumentException();
        }
        file.set(k, b);
    }

    int type(long bytes, int n) {
        if (n < 1 || n > 8) {
            throw new IllegalArgumentException();
        }
        if (file.size() > 900 - n) {
            throw new IllegalStateException();
        }
        for (int i = n; i > 0; i--) {
            file.add((int) ((bytes >>> (8 * i - 8)) % 256 + 256) % 256);
        }
        return file.size();
    }

    void cut(int n) {
        if (n < 0 || n > file.size()) {
            throw new IllegalArgumentException();
        }
        file = new ArrayList<>(file.subList(0, n));
    }
}
