/** The sentences on the file and on where reading fails, and promises 10 and 12 to 16, at their edges. */
public final class FileEdgesTest {
    private static final Class<?> ARGUMENT = IllegalArgumentException.class;
    private static final Class<?> INDEX = IndexOutOfBoundsException.class;
    private static final Class<?> STATE = IllegalStateException.class;
    private static final int LEAST = Integer.MIN_VALUE;
    private static final int MOST = Integer.MAX_VALUE;
    private static final int NONE = LayeredBits.NONE;

    public static void main(String[] args) {
        writtenFiles();
        remarks();
        failures();
        promise10();
        promises12To16();
        Check.finish();
    }

    private static void writtenFiles() {
        Check.sentence("at most 900 bytes 0 .. 255", FileEdgesTest::atMost900);
        Check.sentence("the bytes 74, 66; width; height; how many layers", FileEdgesTest::head);
        Check.sentence("each 255 among them with a 0 behind it", FileEdgesTest::each255);
        Check.sentence("then 255, 2", FileEdgesTest::layerEnds);
        Check.sentence("Width and height are those of the last layer.", FileEdgesTest::sizeOfLastLayer);
        Check.sentence("A file that is written has no remarks.", FileEdgesTest::noRemarksWritten);
    }

    private static void remarks() {
        Check.sentence("REMARKS, if there are any: 255, 7, a byte n, n bytes", FileEdgesTest::remarksOfEachLength);
        Check.sentence("a byte n, n bytes", FileEdgesTest::remarksHoldAnyBytes);
        Check.sentence("then for each layer, from 0 on: REMARKS, if there are any", FileEdgesTest::remarksBeforeEachLayer);
        Check.sentence("7 only before the bytes of a layer", FileEdgesTest::remarksOnlyBeforeBytes);
    }

    private static void failures() {
        Check.sentence("the file is looked through from the beginning", FileEdgesTest::firstFailure);
        Check.sentence("a 255 behind which there is no byte", FileEdgesTest::nothingBehind255);
        Check.sentence("or one that cannot be there, fails at that behind it", FileEdgesTest::wrongBehind255);
        Check.sentence("a byte that is not 74, 66", FileEdgesTest::wrongSigns);
        Check.sentence("width or height, not 1 .. 16", FileEdgesTest::wrongSizes);
        Check.sentence("the number of layers, not 1 .. 3", FileEdgesTest::wrongLayerCount);
        Check.sentence("what stands behind a 255 (0, 2 or 7", FileEdgesTest::everythingBehind255);
        Check.sentence("the end of the file where something must be", FileEdgesTest::everyEnd);
        Check.sentence("the end of the file where something must be", FileEdgesTest::endsInRemarks);
        Check.sentence("or the first byte behind the last layer, if there is one", FileEdgesTest::behindTheLastLayer);
        Check.sentence("Then the layers 0 .. k are taken from their bytes, whatever these are.", FileEdgesTest::anyBytes);
    }

    private static void promise10() {
        Check.sentence("Reads the file (which stays) up to a layer", FileEdgesTest::fileStays);
        Check.sentence("which is the picture then, with the layer's width and height: NONE", FileEdgesTest::sizesOfLayers);
        Check.sentence("or the place (from 0) at which it fails, and the picture stays", FileEdgesTest::pictureStays);
        Check.sentence("layer is below 0", FileEdgesTest::layerBelow0);
        Check.sentence("the file is as it should be (to its end), but has no such layer", FileEdgesTest::noSuchLayer);
    }

    private static void promises12To16() {
        Check.sentence("How many bytes the file has.", FileEdgesTest::sizes);
        Check.sentence("Byte k of the file. IndexOutOfBoundsException: there is none.", FileEdgesTest::noSuchByte);
        Check.sentence("Byte k of the file becomes b.", FileEdgesTest::poked);
        Check.sentence("b is not 0 .. 255", FileEdgesTest::notAByte);
        Check.sentence("Puts the n lowest bytes behind the file, the highest of them first", FileEdgesTest::lowestBytes);
        Check.sentence("n is not 1 .. 8", FileEdgesTest::wrongCount);
        Check.sentence("there would be more than 900", FileEdgesTest::moreThan900);
        Check.sentence("The file keeps its first n bytes.", FileEdgesTest::keepsFirst);
        Check.sentence("n is below 0, or it has not so many", FileEdgesTest::wrongCut);
    }

    /** So many bytes, which count from 0 on, modulo 251. */
    private static LayeredBits counted(int size) {
        LayeredBits bits = new LayeredBits();
        for (int i = 0; i < size; i++) {
            bits.type(i % 251, 1);
        }
        return bits;
    }

    private static void reads(int due, int layer, int... bytes) {
        LayeredBits bits = Make.filed(bytes);
        Check.due("read(" + layer + ") of " + Make.file(bits), bits.read(layer), due);
    }

    /** Up to whichever layer, and whether or not there is one such. */
    private static void failsAt(int place, int... bytes) {
        for (int layer : new int[] {0, 1, 2, 3, MOST}) {
            reads(place, layer, bytes);
        }
    }

    private static void atMost900() {
        LayeredBits bits = counted(900);
        Check.due("size()", bits.size(), 900);
        for (int k = 0; k < 900; k++) {
            Check.due("byteAt(" + k + ")", bits.byteAt(k), k % 251);
        }
        bits.poke(899, 255);
        Check.due("byteAt(899)", bits.byteAt(899), 255);
        Check.refused("type(0, 1)", STATE, () -> bits.type(0, 1));
        LayeredBits full = Make.filed(74, 66, 16, 16, 3);
        full.type(0xFF02FF02L, 4);
        while (full.size() < 898) {
            full.type(1, 1);
        }
        full.type(0xFF02, 2);
        Model model = Make.modelOf(full);
        Check.due("read(2) of 900 bytes", full.read(2), NONE);
        model.read(2);
        Check.due("its picture", Make.picture(full), Make.picture(model));
        full.poke(899, 3);
        Check.due("read(2) fails at its last byte", full.read(2), 899);
        full.poke(899, 0);
        Check.due("read(2) fails behind 900 bytes", full.read(2), 900);
    }

    private static void head() {
        for (int side = 1; side <= 16; side++) {
            for (int n = 1; n <= 3; n++) {
                LayeredBits bits = Make.sized(side, 17 - side);
                bits.write(n);
                String due = "74 66 " + side + " " + (17 - side) + " " + n + " ";
                Check.due("head", Make.file(bits).substring(0, due.length()), due);
            }
        }
    }

    private static void writes(Model.Edge edge, String file, String... rows) {
        LayeredBits bits = Make.drawn(rows);
        Model model = Make.modelOf(bits);
        bits.write(1);
        model.write(1);
        Check.due(file + " has met " + edge, model.met.contains(edge) ? 1 : 0, 1);
        Check.due("file", Make.file(bits), file);
        Check.due("file of the model", Make.file(model), file);
        Check.due("read(0)", bits.read(0), NONE);
        Check.due("picture", Make.picture(bits), Make.picture(model));
    }

    /** The first byte of a layer, the last one, and two in a row. */
    private static void each255() {
        writes(Model.Edge.FIRST_BYTE_255, "74 66 3 4 1 255 0 165 228 255 2", "000", "111", "111", "110");
        writes(Model.Edge.LAST_BYTE_255, "74 66 5 2 1 161 12 255 0 255 2", "01011", "01001");
        writes(Model.Edge.TWO_BYTES_255, "74 66 2 11 1 142 53 255 0 255 0 100 255 2",
            "01", "01", "11", "01", "11", "11", "11", "11", "10", "11", "11");
        // The 0 is no byte of the layer: 255, 165 is another number than 255, 0, 165.
        LayeredBits bits = Make.filed(74, 66, 3, 4, 1, 255, 0, 165, 228, 255, 2);
        LayeredBits more = Make.filed(74, 66, 3, 4, 1, 255, 0, 0, 165, 228, 255, 2);
        bits.read(0);
        more.read(0);
        Check.due("a 0 more is another picture", Make.picture(bits).equals(Make.picture(more)) ? 1 : 0, 0);
    }

    private static void layerEnds() {
        for (int n = 1; n <= 3; n++) {
            LayeredBits bits = Make.drawn("1");
            int size = bits.write(n);
            int ends = 0;
            for (int k = 5; k < size - 1; k++) {
                ends += bits.byteAt(k) == 255 && bits.byteAt(k + 1) == 2 ? 1 : 0;
            }
            Check.due("ends of " + n + " layers", ends, n);
        }
        reads(NONE, 0, 74, 66, 1, 1, 1, 255, 2);
        reads(NONE, 2, 74, 66, 16, 16, 3, 255, 2, 255, 2, 255, 2);
        // A 2 without a 255 is a byte of the layer; so is one behind 255, 0.
        failsAt(6, 74, 66, 1, 1, 1, 2);
        failsAt(8, 74, 66, 1, 1, 1, 255, 0, 2);
        reads(NONE, 0, 74, 66, 1, 1, 1, 255, 0, 2, 255, 2);
    }

    private static void sizeOfLastLayer() {
        for (int n = 1; n <= 3; n++) {
            LayeredBits bits = Make.ones(13, 6);
            bits.write(n);
            Check.due("width in " + n + " layers", bits.byteAt(2), 13);
            Check.due("height in " + n + " layers", bits.byteAt(3), 6);
            bits.clear(1, 1);
            bits.read(n - 1);
            Check.due("last layer of " + n, Make.size(bits), "13 by 6");
        }
    }

    private static void noRemarksWritten() {
        LayeredBits bits = Make.filed(74, 66, 1, 1, 2, 255, 7, 1, 9, 255, 2, 255, 7, 0, 255, 2);
        Check.due("read(1)", bits.read(1), NONE);
        bits.set(0, 0, 1);
        bits.write(2);
        Check.due("written again", Make.file(bits), "74 66 1 1 2 165 228 255 2 255 2");
    }

    private static LayeredBits remarked(int n, int filler) {
        LayeredBits bits = Make.filed(74, 66, 1, 1, 1, 255, 7, n);
        for (int i = 0; i < n; i++) {
            bits.type(filler, 1);
        }
        bits.type(0xA5E4FF02L, 4);
        return bits;
    }

    /** A plain 0 behind remarks of 0 to 255 bytes; without its bytes the layer would be a 1. */
    private static void remarksOfEachLength() {
        for (int n = 0; n <= 255; n++) {
            LayeredBits bits = remarked(n, 17);
            bits.set(0, 0, 1);
            Check.due("read(0) behind " + n, bits.read(0), NONE);
            Check.due("picture behind " + n, Make.picture(bits) + " " + Make.told(bits), "0 1 1 1");
            if (n > 0) {
                // The last byte of the remarks is the first one of the layer then.
                bits.poke(7, n - 1);
                Check.due("read(0) with a smaller n", bits.read(0), NONE);
                Check.due("picture with a smaller n", Make.picture(bits) + " " + Make.told(bits), "1 2 0 1");
            }
        }
    }

    private static void remarksHoldAnyBytes() {
        for (int b = 0; b <= 255; b++) {
            LayeredBits bits = remarked(3, b);
            Check.due("read(0) behind bytes " + b, bits.read(0), NONE);
            Check.due("told behind bytes " + b, Make.told(bits), "1 1 1");
        }
        reads(NONE, 0, 74, 66, 1, 1, 1, 255, 7, 2, 255, 2, 255, 2);
        reads(NONE, 0, 74, 66, 1, 1, 1, 255, 7, 3, 255, 7, 9, 255, 2);
        reads(NONE, 0, 74, 66, 1, 1, 1, 255, 7, 1, 255, 255, 2);
        failsAt(12, 74, 66, 1, 1, 1, 255, 7, 2, 255, 2, 255, 2, 255);
    }

    private static void remarksBeforeEachLayer() {
        reads(NONE, 0, 74, 66, 1, 1, 3, 255, 7, 0, 255, 2, 255, 2, 255, 2);
        reads(NONE, 1, 74, 66, 1, 1, 3, 255, 2, 255, 7, 0, 255, 2, 255, 2);
        reads(NONE, 2, 74, 66, 1, 1, 3, 255, 2, 255, 2, 255, 7, 0, 255, 2);
        reads(NONE, 2, 74, 66, 1, 1, 3, 255, 7, 1, 0, 9, 255, 2, 255, 7, 0, 8, 255, 2, 255, 7, 2, 255, 2, 7, 255, 2);
        // Behind remarks there may be more of them: the bytes of the layer have not begun.
        reads(NONE, 0, 74, 66, 1, 1, 1, 255, 7, 0, 255, 7, 1, 255, 255, 7, 0, 255, 2);
        // Behind the last layer there is nothing.
        failsAt(7, 74, 66, 1, 1, 1, 255, 2, 255, 7, 0);
        failsAt(9, 74, 66, 1, 1, 2, 255, 2, 255, 2, 255, 7, 0, 255, 2);
    }

    private static void remarksOnlyBeforeBytes() {
        failsAt(7, 74, 66, 1, 1, 1, 0, 255, 7, 0, 255, 2);
        failsAt(8, 74, 66, 1, 1, 1, 255, 0, 255, 7, 0, 255, 2);
        failsAt(10, 74, 66, 1, 1, 1, 255, 7, 0, 9, 255, 7, 0, 255, 2);
        failsAt(11, 74, 66, 1, 1, 1, 255, 7, 0, 255, 0, 255, 7, 0, 255, 2);
        failsAt(9, 74, 66, 1, 1, 2, 255, 2, 7, 255, 7, 0, 255, 2);
        // A 7 without a 255 is a byte of the layer.
        reads(NONE, 0, 74, 66, 1, 1, 1, 7, 0, 255, 2);
    }

    private static void firstFailure() {
        failsAt(0, 0, 0, 0, 0, 0, 255, 3);
        failsAt(1, 74, 0, 0, 0, 0, 255, 3);
        failsAt(2, 74, 66, 0, 0, 0, 255, 3);
        failsAt(3, 74, 66, 16, 0, 0, 255, 3);
        failsAt(4, 74, 66, 16, 16, 0, 255, 3);
        failsAt(6, 74, 66, 16, 16, 1, 255, 3, 255, 3);
        failsAt(9, 74, 66, 16, 16, 3, 255, 2, 9, 255, 9, 255, 2, 255, 1);
        failsAt(8, 74, 66, 16, 16, 3, 255, 2, 255, 9, 255, 2, 255, 1);
    }

    private static void nothingBehind255() {
        failsAt(6, 74, 66, 1, 1, 1, 255);
        failsAt(7, 74, 66, 1, 1, 1, 9, 255);
        failsAt(8, 74, 66, 1, 1, 1, 255, 0, 255);
        failsAt(8, 74, 66, 1, 1, 2, 255, 2, 255);
        failsAt(9, 74, 66, 1, 1, 1, 255, 7, 0, 255);
    }

    private static void wrongBehind255() {
        failsAt(6, 74, 66, 1, 1, 1, 255, 1, 255, 2);
        failsAt(6, 74, 66, 1, 1, 1, 255, 255, 2);
        failsAt(6, 74, 66, 1, 1, 1, 255, 255, 0, 255, 2);
        failsAt(7, 74, 66, 1, 1, 1, 9, 255, 3, 255, 2);
        failsAt(8, 74, 66, 1, 1, 2, 255, 2, 255, 8, 255, 2);
        failsAt(9, 74, 66, 1, 1, 1, 255, 7, 0, 255, 6, 255, 2);
    }

    /** Every byte at this place of a file that is else as it should be: which of them do not fail there. */
    private static void onlyGood(int place, int least, int most) {
        for (int b = 0; b <= 255; b++) {
            boolean good = b >= least && b <= most;
            LayeredBits bits = Make.filed(74, 66, 1, 1, 1, 255, 2);
            bits.poke(place, b);
            if (place == 4) {
                for (int k = 1; k < b && k < 5; k++) {
                    bits.type(0xFF02, 2);
                }
            }
            Check.due("read(0) with " + b + " at " + place, bits.read(0), good ? NONE : place);
        }
    }

    private static void wrongSigns() {
        onlyGood(0, 74, 74);
        onlyGood(1, 66, 66);
        failsAt(0, 66, 74, 1, 1, 1, 255, 2);
    }

    private static void wrongSizes() {
        onlyGood(2, 1, 16);
        onlyGood(3, 1, 16);
    }

    private static void wrongLayerCount() {
        onlyGood(4, 1, 3);
    }

    /** Before the bytes of a layer (a remark of 0 bytes follows) and behind one. */
    private static void everythingBehind255() {
        for (int b = 0; b <= 255; b++) {
            boolean before = b == 0 || b == 7;
            reads(b == 2 ? 7 : before ? NONE : 6, 0, 74, 66, 1, 1, 1, 255, b, 0, 255, 2);
            reads(b == 2 ? 8 : b == 0 ? NONE : 7, 0, 74, 66, 1, 1, 1, 9, 255, b, 0, 255, 2);
        }
    }

    private static void everyEnd() {
        LayeredBits bits = Make.drawn("1101001", "0010110", "1111000", "0110011");
        bits.write(3);
        for (int n = bits.size() - 1; n >= 0; n--) {
            bits.cut(n);
            for (int layer : new int[] {0, 1, 2, 3, MOST}) {
                Check.due("read(" + layer + ") of the first " + n, bits.read(layer), n);
            }
        }
        failsAt(0);
        failsAt(5, 74, 66, 16, 16, 1);
        failsAt(7, 74, 66, 16, 16, 1, 255, 0);
        failsAt(7, 74, 66, 16, 16, 2, 255, 2);
        failsAt(9, 74, 66, 16, 16, 3, 255, 2, 255, 2);
    }

    private static void endsInRemarks() {
        failsAt(7, 74, 66, 1, 1, 1, 255, 7);
        failsAt(8, 74, 66, 1, 1, 1, 255, 7, 0);
        failsAt(8, 74, 66, 1, 1, 1, 255, 7, 1);
        failsAt(9, 74, 66, 1, 1, 1, 255, 7, 1, 9);
        failsAt(10, 74, 66, 1, 1, 1, 255, 7, 3, 255, 2);
        failsAt(8, 74, 66, 1, 1, 1, 255, 7, 255);
        failsAt(9, 74, 66, 1, 1, 2, 255, 2, 255, 7);
        // 900 bytes end before the remarks do.
        LayeredBits bits = Make.filed(74, 66, 1, 1, 1);
        while (bits.size() < 900) {
            bits.type(0xFF07020909L, 5);
        }
        Check.due("read(0) of 900 bytes of remarks", bits.read(0), 900);
        bits.poke(897, 255);
        Check.due("read(0) of 900 bytes, too few for the remarks", bits.read(0), 900);
    }

    private static void behindTheLastLayer() {
        for (int b = 0; b <= 255; b++) {
            reads(7, 0, 74, 66, 1, 1, 1, 255, 2, b);
        }
        failsAt(7, 74, 66, 1, 1, 1, 255, 2, 255, 2);
        failsAt(9, 74, 66, 1, 1, 2, 255, 2, 255, 2, 255, 2);
        failsAt(11, 74, 66, 1, 1, 3, 255, 2, 255, 2, 255, 2, 255, 2);
        failsAt(7, 74, 66, 1, 1, 1, 255, 2, 74, 66, 1, 1, 1, 255, 2);
    }

    /** Three layers, each of so many bytes b. */
    private static LayeredBits layersOf(int count, int b) {
        LayeredBits bits = Make.filed(74, 66, 16, 16, 3);
        for (int k = 0; k < 3; k++) {
            for (int i = 0; i < count; i++) {
                bits.type(b == 255 ? 0xFF00 : b, b == 255 ? 2 : 1);
            }
            bits.type(0xFF02, 2);
        }
        return bits;
    }

    /** No bytes, more than are needed, and bytes that no picture is written as. */
    private static void anyBytes() {
        for (int b = 0; b <= 255; b++) {
            for (int count : new int[] {0, 1, 2, 3, 40, 140}) {
                LayeredBits bits = layersOf(count, b);
                Model model = Make.modelOf(bits);
                int layer = b % 3;
                model.read(layer);
                String what = "read(" + layer + ") of " + count + " bytes " + b;
                Check.due(what, bits.read(layer), NONE);
                Check.due(what + ": picture", Make.picture(bits), Make.picture(model));
                Check.due(what + ": told", Make.told(bits), Make.told(model));
            }
        }
        // The layer above 0 is looked through, but not taken.
        LayeredBits bits = Make.filed(74, 66, 1, 1, 2, 165, 228, 255, 2, 1, 2, 3, 4, 5, 255, 2);
        Check.due("read(0)", bits.read(0), NONE);
        Check.due("told", Make.told(bits), "1 1 1");
    }

    private static void fileStays() {
        LayeredBits bits = Make.filed(74, 66, 1, 1, 2, 255, 7, 1, 9, 1, 0, 0, 255, 2, 255, 0, 255, 2);
        String file = Make.file(bits);
        bits.read(1);
        bits.read(0);
        Check.due("file that was read", Make.file(bits), file);
        bits.poke(0, 75);
        String broken = Make.file(bits);
        bits.read(0);
        Check.due("file that failed", Make.file(bits), broken);
    }

    /** The sizes of three layers: sides 1, 2, 3, 4, 5, 9 and 16. */
    private static void sizesOfLayers() {
        int[][] sides = {{1, 1, 1}, {1, 1, 2}, {1, 2, 3}, {1, 2, 4}, {2, 3, 5}, {3, 5, 9}, {4, 8, 16}};
        for (int[] wide : sides) {
            for (int[] high : sides) {
                LayeredBits bits = Make.filed(74, 66, wide[2], high[2], 3, 255, 2, 255, 2, 255, 2);
                for (int k = 0; k < 3; k++) {
                    Check.due("read(" + k + ")", bits.read(k), NONE);
                    Check.due("size of layer " + k, Make.size(bits), wide[k] + " by " + high[k]);
                }
            }
        }
        LayeredBits two = Make.filed(74, 66, 9, 16, 2, 255, 2, 255, 2);
        two.read(0);
        Check.due("layer 0 of 2", Make.size(two), "5 by 8");
    }

    private static void pictureStays() {
        int[][] broken = {{}, {75}, {74, 66, 17}, {74, 66, 9, 9, 1}, {74, 66, 9, 9, 1, 255, 1}, {74, 66, 9, 9, 1, 255, 2, 0},
            {74, 66, 9, 9, 3, 255, 2, 255, 2}};
        int[] places = {0, 0, 2, 5, 6, 7, 9};
        for (int i = 0; i < broken.length; i++) {
            LayeredBits bits = Make.filed(broken[i]);
            bits.clear(3, 2);
            bits.row(1, 5);
            Check.due("read(0)", bits.read(0), places[i]);
            Check.due("size", Make.size(bits), "3 by 2");
            Check.due("picture", Make.picture(bits), "000/101");
        }
    }

    private static void layerBelow0() {
        for (int layer : new int[] {-1, -2, -256, LEAST}) {
            Check.refused("read(" + layer + ") of no file", ARGUMENT, () -> new LayeredBits().read(layer));
            LayeredBits bits = Make.filed(74, 66, 1, 1, 1, 255, 2);
            Check.refused("read(" + layer + ") of a file", ARGUMENT, () -> bits.read(layer));
            Check.due("picture", Make.picture(bits), "0");
        }
    }

    private static void noSuchLayer() {
        for (int n = 1; n <= 3; n++) {
            LayeredBits bits = Make.ones(2, 2);
            bits.write(n);
            Check.due("read(" + (n - 1) + ") of " + n, bits.read(n - 1), NONE);
            for (int layer : new int[] {n, n + 1, 3, 256, MOST}) {
                Check.refused("read(" + layer + ") of " + n, STATE, () -> bits.read(layer));
            }
            // At the end of a file that is not as it should be, no layer is missed.
            bits.type(7, 1);
            Check.due("read(" + n + ") of a file with a byte more", bits.read(n), bits.size() - 1);
            bits.cut(bits.size() - 2);
            Check.due("read(" + n + ") of a file with a byte less", bits.read(n), bits.size());
        }
    }

    private static void sizes() {
        LayeredBits bits = new LayeredBits();
        Check.due("new", bits.size(), 0);
        for (int size = 1; size <= 900; size++) {
            Check.due("type(0, 1)", bits.type(0, 1), size);
            Check.due("size()", bits.size(), size);
        }
        bits.cut(900);
        Check.due("cut(900)", bits.size(), 900);
        bits.cut(899);
        Check.due("cut(899)", bits.size(), 899);
        bits.cut(0);
        Check.due("cut(0)", bits.size(), 0);
        Check.due("write(1)", bits.write(1), bits.size());
    }

    private static void noSuchByte() {
        for (int size : new int[] {0, 1, 5, 899, 900}) {
            LayeredBits bits = counted(size);
            for (int k : new int[] {-1, size, size + 1, 900, 901, -900, LEAST, MOST}) {
                Check.refused("byteAt(" + k + ") of " + size, INDEX, () -> bits.byteAt(k));
                Check.refused("poke(" + k + ", 0) of " + size, INDEX, () -> bits.poke(k, 0));
            }
            if (size > 0) {
                Check.due("the last byte", bits.byteAt(size - 1), (size - 1) % 251);
                bits.cut(size - 1);
                Check.refused("byteAt() of a byte that was cut off", INDEX, () -> bits.byteAt(size - 1));
                Check.refused("poke() of a byte that was cut off", INDEX, () -> bits.poke(size - 1, 1));
            }
        }
    }

    private static void poked() {
        LayeredBits bits = counted(900);
        for (int k : new int[] {0, 1, 250, 898, 899}) {
            for (int b : new int[] {0, 1, 127, 128, 254, 255}) {
                bits.poke(k, b);
                Check.due("byteAt(" + k + ")", bits.byteAt(k), b);
            }
            bits.poke(k, k % 251);
        }
        Check.due("the other bytes", Make.file(bits), Make.file(counted(900)));
    }

    private static void notAByte() {
        LayeredBits bits = counted(3);
        for (int b : new int[] {-1, 256, -255, 511, LEAST, MOST}) {
            for (int k = 0; k < 3; k++) {
                int at = k;
                Check.refused("poke(" + k + ", " + b + ")", ARGUMENT, () -> bits.poke(at, b));
            }
        }
        Check.due("file", Make.file(bits), "0 1 2");
    }

    private static void lowestBytes() {
        String[] due = {"", "136", "119 136", "102 119 136", "85 102 119 136", "68 85 102 119 136",
            "51 68 85 102 119 136", "34 51 68 85 102 119 136", "17 34 51 68 85 102 119 136"};
        for (int n = 1; n <= 8; n++) {
            LayeredBits bits = new LayeredBits();
            Check.due("type(.., " + n + ")", bits.type(0x1122334455667788L, n), n);
            Check.due("file", Make.file(bits), due[n]);
            bits.cut(0);
            bits.type(-1, n);
            Check.due("file of -1", Make.file(bits), "255 255 255 255 255 255 255 255".substring(0, 4 * n - 1));
            bits.cut(0);
            bits.type(Long.MIN_VALUE, n);
            Check.due("file of the least", bits.byteAt(0), n == 8 ? 128 : 0);
            Check.due("behind what was there", bits.type(Long.MAX_VALUE, n), 2 * n);
            Check.due("file of the most", bits.byteAt(n), n == 8 ? 127 : 255);
        }
    }

    private static void wrongCount() {
        LayeredBits bits = counted(4);
        for (int n : new int[] {0, 9, -1, 10, 256 + 1, LEAST, MOST}) {
            Check.refused("type(0, " + n + ")", ARGUMENT, () -> bits.type(0, n));
        }
        Check.due("file", Make.file(bits), "0 1 2 3");
    }

    private static void moreThan900() {
        for (int n = 1; n <= 8; n++) {
            int count = n;
            LayeredBits bits = counted(901 - n);
            String file = Make.file(bits);
            Check.refused("type(0, " + n + ") to 901", STATE, () -> bits.type(0, count));
            Check.due("file", Make.file(bits), file);
            bits.cut(900 - n);
            Check.due("type(0, " + n + ") to 900", bits.type(0, n), 900);
            Check.refused("type(0, " + n + ") behind 900", STATE, () -> bits.type(0, count));
        }
    }

    private static void keepsFirst() {
        for (int n : new int[] {900, 899, 450, 1, 0}) {
            LayeredBits bits = counted(900);
            bits.cut(n);
            Check.due("cut(" + n + ")", Make.file(bits), Make.file(counted(n)));
            if (n < 900) {
                bits.type(9, 1);
                Check.due("typed behind it", bits.byteAt(n), 9);
            }
        }
        LayeredBits none = new LayeredBits();
        none.cut(0);
        Check.due("cut(0) of no file", none.size(), 0);
    }

    private static void wrongCut() {
        for (int size : new int[] {0, 1, 5, 899, 900}) {
            LayeredBits bits = counted(size);
            for (int n : new int[] {-1, size + 1, 901, LEAST, MOST}) {
                Check.refused("cut(" + n + ") of " + size, ARGUMENT, () -> bits.cut(n));
            }
            bits.cut(size);
            Check.due("file", Make.file(bits), Make.file(counted(size)));
        }
    }
}
