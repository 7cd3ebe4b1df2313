/** The sentences on layers, plain rows and contexts, and promises 9 and 11, at their edges. */
public final class LayerEdgesTest {
    private static final Class<?> ARGUMENT = IllegalArgumentException.class;
    private static final Class<?> STATE = IllegalStateException.class;
    private static final int LEAST = Integer.MIN_VALUE;
    private static final int MOST = Integer.MAX_VALUE;

    public static void main(String[] args) {
        Check.sentence("a picture written in n layers (1 .. 3) has the layer n - 1, itself", LayerEdgesTest::lastLayer);
        Check.sentence("layer k is the half of layer k + 1", LayerEdgesTest::lowerLayers);
        Check.sentence("in layer 0, if it is the same as the row above it", LayerEdgesTest::plainInLayer0);
        Check.sentence("in others, if every pixel is that of layer k - 1 at (x / 2, y / 2)", LayerEdgesTest::plainInOthers);
        Check.sentence("The decision whether it is plain (1 if it is)", LayerEdgesTest::allPlainOrNone);
        Check.sentence("A row that is not has a decision for each pixel (x, y), from the left", LayerEdgesTest::fewestAndMost);
        Check.sentence("outside all are 0", LayerEdgesTest::contextsAtBorders);
        Check.sentence("at (u - 1, v) for even x and (u + 1, v) for odd x", LayerEdgesTest::besideInLayerBelow);
        Check.sentence("at (u, v - 1) for even y and (u, v + 1) for odd y", LayerEdgesTest::overInLayerBelow);
        Check.sentence("All contexts begin anew, and code and span, in each layer.", LayerEdgesTest::beginAnew);
        Check.sentence("Writes the picture in layers as the file, in place of what was there", LayerEdgesTest::inPlace);
        Check.sentence("how many bytes it has", LayerEdgesTest::howManyBytes);
        Check.sentence("layers is not 1 .. 3", LayerEdgesTest::wrongLayers);
        Check.sentence("by write(): the last one", LayerEdgesTest::toldOfWriting);
        Check.sentence("by read(): the one up to which it read", LayerEdgesTest::toldOfReading);
        Check.sentence("calls that failed do not count", LayerEdgesTest::toldAfterFailures);
        Check.sentence("how many decisions (0), how many rows that were plain (1), how often span was doubled (2)",
            LayerEdgesTest::toldByHand);
        Check.sentence("what is none of these", LayerEdgesTest::toldOfNothing);
        Check.sentence("IllegalStateException: none was.", LayerEdgesTest::toldOfNone);
        Check.finish();
    }

    /** Kinds of pictures: 0 ones, 1 a frame, 2 a chessboard, 3 stripes, 4 and more without order. */
    private static LayeredBits patterned(int width, int height, int kind) {
        LayeredBits bits = Make.sized(width, height);
        int seed = 7919 * kind + 31 * width + height;
        for (int y = 0; y < height; y++) {
            seed = seed * 1103515245 + 12345;
            for (int x = 0; x < width; x++) {
                boolean border = x == 0 || y == 0 || x == width - 1 || y == height - 1;
                int[] regular = {1, border ? 1 : 0, (x + y) % 2, x / 2 % 2};
                bits.set(x, y, kind < regular.length ? regular[kind] : seed >> (8 + x) & 1);
            }
        }
        return bits;
    }

    private static void lastLayer() {
        for (int side = 1; side <= 16; side++) {
            for (int n = 1; n <= 3; n++) {
                LayeredBits bits = patterned(side, 17 - side, 4 + n);
                String picture = Make.picture(bits);
                bits.write(n);
                Check.due("the picture when it was written", Make.picture(bits), picture);
                Check.due("how many layers the file has", bits.byteAt(4), n);
                bits.clear(16, 16);
                Check.due("read(" + (n - 1) + ")", bits.read(n - 1), LayeredBits.NONE);
                Check.due("layer " + (n - 1), Make.picture(bits), picture);
            }
        }
    }

    private static void lowerLayers() {
        for (int side = 1; side <= 16; side++) {
            LayeredBits bits = patterned(17 - side, side, side % 7);
            LayeredBits halves = patterned(17 - side, side, side % 7);
            bits.write(3);
            for (int k = 2; k >= 0; k--) {
                Check.due("read(" + k + ")", bits.read(k), LayeredBits.NONE);
                Check.due("layer " + k, Make.picture(bits), Make.picture(halves));
                halves.halve();
            }
        }
    }

    private static void writtenIn(int n, String told, String... rows) {
        LayeredBits bits = Make.drawn(rows);
        String picture = Make.picture(bits);
        bits.write(n);
        Check.due(picture + " in " + n + " layers: told", Make.told(bits), told);
        bits.read(n - 1);
        Check.due("and read", Make.picture(bits), picture);
        Check.due("and told", Make.told(bits), told);
    }

    private static void rowsIn(int n, int decisions, int plain, String... rows) {
        LayeredBits bits = Make.drawn(rows);
        bits.write(n);
        Check.due(Make.picture(bits) + " in " + n + " layers: decisions", bits.told(0), decisions);
        Check.due(Make.picture(bits) + " in " + n + " layers: plain rows", bits.told(1), plain);
    }

    /** The row above the first one is outside, so that it is 0. */
    private static void plainInLayer0() {
        rowsIn(1, 1, 1, "000");
        rowsIn(1, 4, 0, "001");
        rowsIn(1, 4, 0, "100");
        rowsIn(1, 5, 1, "111", "111");
        rowsIn(1, 8, 0, "111", "110");
        rowsIn(1, 8, 0, "111", "011");
        rowsIn(1, 12, 0, "100", "010", "100");
        rowsIn(1, 11, 3, "000", "100", "100", "101", "101");
        rowsIn(1, 5, 1, "000", "111");
    }

    /** Four by four with at most one 0 in a corner has four ones as its half; the half of "1", "1" is 0. */
    private static void plainInOthers() {
        rowsIn(2, 4, 4, "1111", "1111", "1111", "1111");
        rowsIn(2, 8, 3, "0111", "1111", "1111", "1111");
        rowsIn(2, 8, 3, "1110", "1111", "1111", "1111");
        rowsIn(2, 8, 3, "1111", "1111", "1111", "0111");
        rowsIn(2, 8, 3, "1111", "1111", "1111", "1110");
        rowsIn(2, 4, 0, "1", "1");
        rowsIn(2, 2, 2, "0", "0");
        // The half is "10", "00": the first two rows have a 1 too many at the right.
        rowsIn(2, 9, 1, "111", "111", "000");
        rowsIn(3, 4, 4, "1111", "1111", "1111", "1111");
        rowsIn(3, 8, 3, "1111", "1111", "1111", "1110");
    }

    private static void allPlainOrNone() {
        for (int n = 1; n <= 3; n++) {
            LayeredBits none = Make.sized(16, 16);
            none.write(n);
            Check.due("zeros in " + n + " layers: plain rows", none.told(1), 16);
            Check.due("zeros in " + n + " layers: decisions", none.told(0), 16);
            LayeredBits board = patterned(16, 16, 2);
            board.write(n);
            Check.due("a chessboard in " + n + " layers: plain rows", board.told(1), 0);
        }
        // A number from 42468 / 65536 on says that the first row is plain.
        LayeredBits bits = Make.filed(74, 66, 16, 1, 1, 255, 0, 255, 0, 255, 2);
        Check.due("read of a large number", bits.read(0), LayeredBits.NONE);
        Check.due("its row is that above, which is outside", Make.picture(bits), "0000000000000000");
        Check.due("told", Make.told(bits), "1 1 1");
    }

    private static void fewestAndMost() {
        for (int n = 1; n <= 3; n++) {
            LayeredBits one = new LayeredBits();
            one.write(n);
            Check.due("one pixel in " + n + " layers", one.told(0), 1);
            LayeredBits board = patterned(16, 16, 2);
            board.write(n);
            Check.due("a chessboard in " + n + " layers", board.told(0), 16 * 17);
            LayeredBits line = Make.ones(16, 1);
            line.write(n);
            Check.due("a line in " + n + " layers", line.told(0), 17);
        }
        LayeredBits column = patterned(1, 16, 2);
        column.write(1);
        Check.due("a column whose first pixel is 0", column.told(0), 31);
    }

    /** Pictures of every size with ones at their borders; the model knows that nothing is outside. */
    private static void contextsAtBorders() {
        for (int width = 1; width <= 16; width++) {
            for (int height = 1; height <= 16; height++) {
                for (int kind = 0; kind < 7; kind++) {
                    LayeredBits bits = patterned(width, height, kind);
                    sameFiles(bits);
                }
            }
        }
    }

    private static void sameFiles(LayeredBits bits) {
        for (int n = 1; n <= 3; n++) {
            Model model = Make.modelOf(bits);
            bits.write(n);
            model.write(n);
            Check.due(Make.picture(bits) + " in " + n + " layers", Make.file(bits), Make.file(model));
            Check.due(Make.picture(bits) + " in " + n + " layers: told", Make.told(bits), Make.told(model));
            bits.cut(0);
        }
    }

    /** Pictures whose layer below has ones in one column alone, at each place. */
    private static void besideInLayerBelow() {
        for (int column = 0; column < 7; column++) {
            LayeredBits bits = Make.sized(13, 6);
            for (int y = 0; y < 6; y++) {
                bits.row(y, 7 << (2 * column) >> 1 ^ (y == 1 || y == 4 ? 0b0010010010010 : 0));
            }
            sameFiles(bits);
        }
    }

    private static void overInLayerBelow() {
        for (int line = 0; line < 7; line++) {
            LayeredBits bits = Make.sized(6, 13);
            for (int y = 0; y < 13; y++) {
                int stripe = y / 2 == line ? 0b111111 : 0;
                bits.row(y, stripe ^ (y % 3 == 1 ? 0b010010 : 0));
            }
            sameFiles(bits);
        }
    }

    private static void beginAnew() {
        LayeredBits bits = new LayeredBits();
        bits.write(3);
        // Each layer is the same plain pixel.
        Check.due("three times the same layer", Make.file(bits), "74 66 1 1 3 165 228 255 2 165 228 255 2 165 228 255 2");
        LayeredBits used = patterned(16, 16, 4);
        for (int n = 1; n <= 3; n++) {
            LayeredBits fresh = patterned(16, 16, 4);
            fresh.write(n);
            for (int times = 0; times < 3; times++) {
                used.write(n);
                Check.due("written again", Make.file(used), Make.file(fresh));
                Check.due("told again", Make.told(used), Make.told(fresh));
                used.read(0);
                used.read(n - 1);
                Check.due("read again", Make.picture(used), Make.picture(fresh));
            }
        }
        used.clear(1, 1);
        used.write(3);
        Check.due("a pixel behind a large picture", Make.file(used), Make.file(bits));
    }

    private static void inPlace() {
        LayeredBits bits = new LayeredBits();
        while (bits.size() < 900) {
            bits.type(0xFF07, 2);
        }
        Check.due("write(1) over 900 bytes", bits.write(1), 9);
        Check.due("file", Make.file(bits), "74 66 1 1 1 165 228 255 2");
        bits.set(0, 0, 1);
        Check.due("write(1) over a longer file", bits.write(1), 7);
        Check.due("file", Make.file(bits), "74 66 1 1 1 255 2");
        Check.refused("byteAt(7)", IndexOutOfBoundsException.class, () -> bits.byteAt(7));
        Check.due("type behind it", bits.type(9, 1), 8);
        Check.due("byteAt(7)", bits.byteAt(7), 9);
    }

    private static void howManyBytes() {
        LayeredBits one = Make.drawn("1");
        Check.due("fewest bytes", one.write(1), 7);
        Check.due("size()", one.size(), 7);
        for (int kind = 0; kind < 40; kind++) {
            LayeredBits bits = patterned(16, 16, kind);
            int size = bits.write(3);
            Check.due("size()", bits.size(), size);
            Check.due("the last byte", bits.byteAt(size - 1), 2);
            Check.due("the last but one", bits.byteAt(size - 2), 255);
        }
    }

    private static void wrongLayers() {
        LayeredBits bits = Make.drawn("10", "01");
        bits.write(2);
        String before = Make.everything(bits);
        for (int n : new int[] {0, 4, -1, 257, 258, LEAST, MOST}) {
            Check.refused("write(" + n + ")", ARGUMENT, () -> bits.write(n));
        }
        Check.due("everything", Make.everything(bits), before);
    }

    /** Of "1" in two layers, the lower one is a plain 0, the upper one a 1 that is not plain. */
    private static void toldOfWriting() {
        LayeredBits bits = Make.drawn("1");
        bits.write(2);
        Check.due("told of two layers", Make.told(bits), "2 0 1");
        bits.clear(1, 1);
        bits.write(3);
        Check.due("told of three layers", Make.told(bits), "1 1 1");
        bits.set(0, 0, 1);
        bits.write(1);
        Check.due("told of one layer", Make.told(bits), "2 0 1");
    }

    private static void toldOfReading() {
        LayeredBits bits = patterned(16, 16, 5);
        LayeredBits halves = patterned(16, 16, 5);
        bits.write(3);
        halves.halve();
        halves.halve();
        halves.write(1);
        bits.read(0);
        Check.due("told of layer 0", Make.told(bits), Make.told(halves));
        LayeredBits middle = patterned(16, 16, 5);
        middle.halve();
        middle.write(2);
        bits.read(1);
        Check.due("told of layer 1", Make.told(bits), Make.told(middle));
        bits.read(2);
        LayeredBits whole = patterned(16, 16, 5);
        whole.write(3);
        Check.due("told of layer 2", Make.told(bits), Make.told(whole));
    }

    private static void toldAfterFailures() {
        LayeredBits bits = Make.drawn("1");
        bits.write(2);
        bits.clear(16, 16);
        Check.refused("write(4)", ARGUMENT, () -> bits.write(4));
        Check.refused("read(-1)", ARGUMENT, () -> bits.read(-1));
        Check.refused("read(2)", STATE, () -> bits.read(2));
        bits.type(1, 1);
        Check.due("read(0) fails", bits.read(0), bits.size() - 1);
        Check.refused("told(3)", ARGUMENT, () -> bits.told(3));
        Check.due("told", Make.told(bits), "2 0 1");
        bits.halve();
        bits.cut(0);
        Check.due("read(0) fails", bits.read(0), 0);
        Check.due("told without a file", Make.told(bits), "2 0 1");
    }

    /** Each of these decisions but the 0 of a first row that is not plain brings one doubling. */
    private static void toldByHand() {
        writtenIn(1, "1 1 1", "0");
        writtenIn(1, "2 0 1", "1");
        writtenIn(1, "2 2 2", "0", "0");
        writtenIn(1, "3 1 3", "0", "1");
        writtenIn(2, "1 1 1", "0");
        writtenIn(3, "2 0 1", "1");
    }

    private static void toldOfNothing() {
        LayeredBits bits = new LayeredBits();
        int[] wrong = {-1, 3, 256, LEAST, MOST};
        for (int what : wrong) {
            Check.refused("told(" + what + ") of a new object", ARGUMENT, () -> bits.told(what));
        }
        bits.write(1);
        for (int what : wrong) {
            Check.refused("told(" + what + ")", ARGUMENT, () -> bits.told(what));
        }
    }

    private static void toldOfNone() {
        LayeredBits bits = new LayeredBits();
        bits.type(0x4A42010101FFL, 6);
        bits.read(0);
        bits.halve();
        Check.refused("write(0)", ARGUMENT, () -> bits.write(0));
        for (int what = 0; what <= 2; what++) {
            int w = what;
            Check.refused("told(" + what + ")", STATE, () -> bits.told(w));
        }
        bits.type(2, 1);
        Check.refused("read(1)", STATE, () -> bits.read(1));
        Check.refused("told(0)", STATE, () -> bits.told(0));
        Check.due("read(0)", bits.read(0), LayeredBits.NONE);
        Check.due("told", Make.told(bits), "2 0 1");
    }
}
