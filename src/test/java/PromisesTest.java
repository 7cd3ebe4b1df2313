/** Each promise of the document: ordinary inputs, edges, wrong inputs. What is due was mostly found by hand. */
public final class PromisesTest {
    private static final Class<?> ARGUMENT = IllegalArgumentException.class;
    private static final Class<?> INDEX = IndexOutOfBoundsException.class;
    private static final Class<?> STATE = IllegalStateException.class;

    public static void main(String[] args) {
        promise1NewObject();
        promise2Clear();
        promise3Set();
        promise4Row();
        promise5Get();
        promise6And7WidthAndHeight();
        promise8Halve();
        promise8HalveOfTies();
        promise9Write();
        promise9WrittenPixel();
        promise9WriteEscapes();
        promise10ReadBack();
        promise10ReadLayerSizes();
        promise10ReadFailsAtHead();
        promise10ReadFailsAtEnds();
        promise10ReadFailsAtMarks();
        promise10ReadRemarks();
        promise10ReadRefusals();
        promise10ReadAnyBytes();
        promise11Told();
        promise12Size();
        promise13ByteAt();
        promise14Poke();
        promise15Type();
        promise16Cut();
        Check.finish();
    }

    private static void promise1NewObject() {
        LayeredBits bits = new LayeredBits();
        Check.due("new: picture", Make.picture(bits), "0");
        Check.due("new: size()", bits.size(), 0);
        Check.refused("new: told(0)", STATE, () -> bits.told(0));
    }

    private static void promise2Clear() {
        LayeredBits bits = Make.drawn("11", "11");
        int size = bits.write(1);
        bits.clear(2, 2);
        Check.due("clear to the same size", Make.picture(bits), "00/00");
        Check.due("clear leaves the file", bits.size(), size);
        bits.clear(16, 16);
        bits.row(15, -1);
        bits.clear(1, 16);
        bits.clear(16, 16);
        Check.due("nothing comes back", bits.get(15, 15) + bits.get(0, 15), 0);
        bits.set(3, 3, 1);
        int[][] wrong = {{0, 1}, {1, 0}, {17, 1}, {1, 17}, {-1, 5}, {Integer.MIN_VALUE, 1}, {1, Integer.MAX_VALUE}};
        for (int[] w : wrong) {
            Check.refused("clear(" + w[0] + ", " + w[1] + ")", ARGUMENT, () -> bits.clear(w[0], w[1]));
        }
        Check.due("a refused clear changes nothing", 100 * bits.width() + 10 * bits.height() + bits.get(3, 3), 1761);
    }

    private static void promise3Set() {
        LayeredBits bits = Make.sized(5, 3);
        Check.due("set 1 over 0", bits.set(4, 2, 1), 0);
        Check.due("set 1 over 1", bits.set(4, 2, 1), 1);
        Check.due("the pixel is set", Make.picture(bits), "00000/00000/00001");
        Check.due("set 0 over 1", bits.set(4, 2, 0), 1);
        Check.due("set 1 at the corner", bits.set(0, 0, 1), 0);
        int[][] outside = {{5, 0}, {0, 3}, {-1, 0}, {0, -1}, {Integer.MAX_VALUE, 0}, {0, Integer.MIN_VALUE}};
        for (int[] o : outside) {
            Check.refused("set(" + o[0] + ", " + o[1] + ", 1)", INDEX, () -> bits.set(o[0], o[1], 1));
            Check.refused("set(" + o[0] + ", " + o[1] + ", 2)", INDEX, () -> bits.set(o[0], o[1], 2));
        }
        for (int b : new int[] {2, -1, Integer.MAX_VALUE, Integer.MIN_VALUE}) {
            Check.refused("set(0, 0, " + b + ")", ARGUMENT, () -> bits.set(0, 0, b));
        }
        Check.due("refused calls change nothing", Make.picture(bits), "10000/00000/00000");
    }

    private static void promise4Row() {
        LayeredBits bits = Make.sized(5, 3);
        bits.row(0, 0b00001);
        bits.row(1, 0b1110000);
        bits.row(2, -2);
        Check.due("rows", Make.picture(bits), "00001/10000/11110");
        bits.row(2, 1 << 31);
        Check.due("only the lowest bits", Make.picture(bits), "00001/10000/00000");
        for (int y : new int[] {3, -1, Integer.MAX_VALUE, Integer.MIN_VALUE}) {
            Check.refused("row(" + y + ", 1)", INDEX, () -> bits.row(y, 1));
        }
        LayeredBits wide = Make.sized(16, 1);
        wide.row(0, 0x18001);
        Check.due("a row of sixteen", Make.picture(wide), "1000000000000001");
    }

    private static void promise5Get() {
        LayeredBits bits = Make.drawn("111", "111");
        Check.due("get inside", bits.get(0, 0) + bits.get(2, 1), 2);
        int[][] outside = {{-1, 0}, {3, 0}, {0, 2}, {0, -1}, {16, 1}, {-16, 1},
            {Integer.MIN_VALUE, 0}, {Integer.MAX_VALUE, 0}, {0, Integer.MIN_VALUE}, {0, Integer.MAX_VALUE}};
        for (int[] o : outside) {
            Check.due("get(" + o[0] + ", " + o[1] + ")", bits.get(o[0], o[1]), 0);
        }
    }

    private static void promise6And7WidthAndHeight() {
        LayeredBits bits = Make.sized(16, 3);
        Check.due("width()", bits.width(), 16);
        Check.due("height()", bits.height(), 3);
        bits.clear(2, 16);
        Check.due("width() after clear", bits.width(), 2);
        Check.due("height() after clear", bits.height(), 16);
    }

    private static String halved(String... rows) {
        LayeredBits bits = Make.drawn(rows);
        bits.halve();
        return Make.picture(bits);
    }

    private static void promise8Halve() {
        Check.due("half of four ones", halved("11", "11"), "1");
        Check.due("half of three ones", halved("11", "10"), "0");
        Check.due("half of one pixel", halved("1"), "0");
        Check.due("half of 3 by 1", halved("111"), "00");
        Check.due("half of 5 by 3", halved("11111", "11111", "11111"), "110/000");
        Check.due("three ones and three around", halved("111", "101", "001"), "10/00");
        LayeredBits bits = Make.drawn("1111111111111111");
        int size = bits.write(1);
        bits.halve();
        Check.due("halved width", bits.width(), 8);
        Check.due("halved height", bits.height(), 1);
        Check.due("halving leaves the file", bits.size(), size);
        bits.clear(16, 16);
        for (int y = 0; y < 16; y++) {
            bits.row(y, -1);
        }
        bits.halve();
        bits.halve();
        Check.due("half of the half of ones", Make.picture(bits), "1111/1111/1111/1111");
    }

    private static void promise8HalveOfTies() {
        Check.due("a tie behind 1", halved("1111", "1110"), "11");
        Check.due("a tie behind 0", halved("0111", "0110"), "00");
        Check.due("a tie at the left", halved("111", "101"), "00");
        Check.due("a tie at the left below 1", halved("110000", "110000", "110000", "100000").split("/")[1], "000");
    }

    private static void promise9Write() {
        LayeredBits bits = new LayeredBits();
        bits.type(0x0102030405060708L, 8);
        bits.type(0x0102030405060708L, 8);
        Check.due("write(1) of a pixel 0", bits.write(1), 9);
        // One plain row: code is 42468, doubled once: 84936 in 17 digits and 7 zeros.
        Check.due("its bytes", Make.file(bits), "74 66 1 1 1 165 228 255 2");
        Check.due("its picture stays", Make.picture(bits), "0");
        Check.due("write(3) of a pixel 0", bits.write(3), 17);
        Check.due("its bytes in 3 layers", Make.file(bits), "74 66 1 1 3 165 228 255 2 165 228 255 2 165 228 255 2");
        for (int n : new int[] {0, 4, -1, Integer.MAX_VALUE, Integer.MIN_VALUE}) {
            Check.refused("write(" + n + ")", ARGUMENT, () -> bits.write(n));
        }
        Check.due("a refused write changes nothing", bits.size(), 17);
    }

    private static void promise9WrittenPixel() {
        LayeredBits bits = Make.drawn("1");
        // Both decisions leave code 0, so that the layer has no byte.
        Check.due("write(1) of a pixel 1", bits.write(1), 7);
        Check.due("its bytes", Make.file(bits), "74 66 1 1 1 255 2");
        Check.due("decisions, plain rows, doublings", "" + bits.told(0) + bits.told(1) + bits.told(2), "201");
        Check.due("it is read", bits.read(0), LayeredBits.NONE);
        Check.due("and the same", Make.picture(bits), "1");
    }

    /** Pictures are tried until one has a byte 255 in its only layer. */
    private static void promise9WriteEscapes() {
        int found = 0;
        for (int seed = 1; seed < 4000 && found < 5; seed++) {
            LayeredBits bits = Make.sized(8, 4);
            for (int y = 0; y < 4; y++) {
                bits.row(y, seed * (7919 + 104729 * y) >> 3);
            }
            String before = Make.picture(bits);
            int size = bits.write(1);
            for (int k = 5; k < size - 2; k++) {
                if (bits.byteAt(k) == 255) {
                    found++;
                    Check.due("a 0 behind 255", bits.byteAt(k + 1), 0);
                    Check.due("read with a 255", bits.read(0), LayeredBits.NONE);
                    Check.due("picture with a 255", Make.picture(bits), before);
                }
            }
        }
        Check.due("pictures with a 255", found >= 5 ? 1 : 0, 1);
    }

    private static void promise10ReadBack() {
        for (int seed = 1; seed < 400; seed++) {
            LayeredBits bits = Make.sized(1 + seed % 16, 1 + seed / 16 % 16);
            for (int y = 0; y < bits.height(); y++) {
                bits.row(y, seed % 3 == 0 ? seed : seed * (7919 + 104729 * y) >> 5);
            }
            String before = Make.picture(bits);
            for (int n = 1; n <= 3; n++) {
                bits.write(n);
                String file = Make.file(bits);
                String told = bits.told(0) + " " + bits.told(1) + " " + bits.told(2);
                bits.clear(3, 3);
                Check.due("read", bits.read(n - 1), LayeredBits.NONE);
                Check.due("picture that is read", Make.picture(bits), before);
                Check.due("file that was read", Make.file(bits), file);
                Check.due("told of reading", bits.told(0) + " " + bits.told(1) + " " + bits.told(2), told);
            }
        }
    }

    private static void promise10ReadLayerSizes() {
        LayeredBits bits = Make.sized(13, 6);
        for (int y = 0; y < 6; y++) {
            bits.row(y, y < 3 ? 0b1111110000110 : 0b1111000011110);
        }
        bits.write(3);
        LayeredBits halves = Make.drawn("1111110000110", "1111110000110", "1111110000110",
            "1111000011110", "1111000011110", "1111000011110");
        halves.halve();
        String first = Make.picture(halves);
        halves.halve();
        bits.read(1);
        Check.due("layer 1 is the half", Make.picture(bits), first);
        Check.due("layer 1 size", 100 * bits.width() + bits.height(), 703);
        bits.read(0);
        Check.due("layer 0 is its half", Make.picture(bits), Make.picture(halves));
        Check.due("layer 0 size", 100 * bits.width() + bits.height(), 402);
    }

    private static void failsAt(int place, int... bytes) {
        LayeredBits bits = Make.filed(bytes);
        bits.clear(3, 2);
        bits.set(2, 1, 1);
        String file = Make.file(bits);
        Check.due("read(0) of " + file, bits.read(0), place);
        Check.due("read(9) of " + file, bits.read(9), place);
        Check.due("picture after a failure", Make.picture(bits), "000/001");
        Check.due("file after a failure", Make.file(bits), file);
        Check.refused("told after a failure", STATE, () -> bits.told(0));
    }

    private static void promise10ReadFailsAtHead() {
        failsAt(0);
        failsAt(0, 66, 74, 1, 1, 1, 255, 2);
        failsAt(1, 74);
        failsAt(1, 74, 74, 1, 1, 1, 255, 2);
        failsAt(2, 74, 66, 0, 0, 0, 255, 2);
        failsAt(2, 74, 66, 17, 1, 1, 255, 2);
        failsAt(3, 74, 66, 16, 0, 9, 255, 2);
        failsAt(3, 74, 66, 16, 17, 1, 255, 2);
        failsAt(3, 74, 66, 16, 255, 1, 255, 2);
        failsAt(4, 74, 66, 16, 16, 0, 255, 2);
        failsAt(4, 74, 66, 16, 16, 4, 255, 2);
        failsAt(5, 74, 66, 16, 16, 1);
    }

    private static void promise10ReadFailsAtEnds() {
        LayeredBits bits = Make.drawn("1101001", "0010110", "1111000", "0110011");
        for (int n = bits.write(3) - 1; n >= 0; n--) {
            bits.cut(n);
            Check.due("read(0) of the first " + n, bits.read(0), n);
            Check.due("read(7) of the first " + n, bits.read(7), n);
        }
        failsAt(7, 74, 66, 2, 2, 1, 255, 2, 0);
        failsAt(7, 74, 66, 2, 2, 1, 255, 2, 255, 2);
        failsAt(7, 74, 66, 2, 2, 2, 255, 2);
        failsAt(9, 74, 66, 2, 2, 2, 255, 2, 255, 2, 74);
        failsAt(11, 74, 66, 2, 2, 3, 255, 2, 255, 2, 255, 2, 255, 2);
    }

    private static void promise10ReadFailsAtMarks() {
        failsAt(6, 74, 66, 2, 2, 1, 255);
        failsAt(6, 74, 66, 2, 2, 1, 255, 1, 255, 2);
        failsAt(6, 74, 66, 2, 2, 1, 255, 255, 2);
        failsAt(7, 74, 66, 2, 2, 1, 255, 0);
        failsAt(7, 74, 66, 2, 2, 1, 9, 255, 3, 255, 2);
        failsAt(7, 74, 66, 2, 2, 1, 9, 255, 7, 0, 255, 2);
        failsAt(8, 74, 66, 2, 2, 1, 255, 0, 255, 7, 0, 255, 2);
        failsAt(8, 74, 66, 2, 2, 2, 255, 2, 255, 8, 255, 2);
        failsAt(10, 74, 66, 2, 2, 1, 9, 255, 0, 9, 255);
    }

    private static void promise10ReadRemarks() {
        failsAt(7, 74, 66, 2, 2, 1, 255, 7);
        failsAt(8, 74, 66, 2, 2, 1, 255, 7, 0);
        failsAt(9, 74, 66, 2, 2, 1, 255, 7, 2, 1);
        failsAt(10, 74, 66, 2, 2, 1, 255, 7, 2, 255, 2);
        failsAt(12, 74, 66, 2, 2, 1, 255, 7, 2, 255, 2, 255, 2, 1);
        LayeredBits plain = Make.filed(74, 66, 1, 1, 1, 165, 228, 255, 2);
        LayeredBits bits = Make.filed(74, 66, 1, 1, 2, 255, 7, 3, 255, 2, 7, 255, 2, 255, 7, 0, 165, 228, 255, 2);
        Check.due("read without remarks", plain.read(0), LayeredBits.NONE);
        Check.due("read with remarks", bits.read(1), LayeredBits.NONE);
        Check.due("a plain layer", Make.picture(plain) + plain.told(1), "01");
        Check.due("a plain layer behind remarks", bits.told(0) * 10 + bits.told(1), 11);
        Check.due("its pixel is that below", Make.picture(bits), "1");
        LayeredBits twice = Make.filed(74, 66, 1, 1, 1, 255, 7, 1, 9, 255, 7, 0, 165, 228, 255, 2);
        Check.due("remarks twice before the bytes", twice.read(0), LayeredBits.NONE);
        LayeredBits longest = Make.filed(74, 66, 1, 1, 1, 255, 7, 255);
        for (int i = 0; i < 255; i++) {
            longest.type(255, 1);
        }
        longest.type(0xFF02, 2);
        Check.due("the longest remarks", longest.read(0), LayeredBits.NONE);
    }

    private static void promise10ReadRefusals() {
        LayeredBits bits = Make.drawn("10", "01");
        bits.write(2);
        String file = Make.file(bits);
        bits.clear(3, 1);
        for (int k : new int[] {2, 3, Integer.MAX_VALUE}) {
            Check.refused("read(" + k + ") of two layers", STATE, () -> bits.read(k));
        }
        Check.refused("read(-1)", ARGUMENT, () -> bits.read(-1));
        Check.refused("read(MIN)", ARGUMENT, () -> bits.read(Integer.MIN_VALUE));
        Check.due("a refused read leaves the picture", Make.picture(bits), "000");
        Check.due("a refused read leaves the file", Make.file(bits), file);
        bits.cut(0);
        Check.refused("read(-1) of no file", ARGUMENT, () -> bits.read(-1));
        Check.due("read(5) of no file", bits.read(5), 0);
    }

    private static void promise10ReadAnyBytes() {
        LayeredBits zeros = Make.filed(74, 66, 4, 4, 1, 255, 2);
        Check.due("a layer without bytes", zeros.read(0), LayeredBits.NONE);
        String without = Make.picture(zeros) + zeros.told(0) + zeros.told(2);
        LayeredBits more = Make.filed(74, 66, 4, 4, 1, 0, 0, 0, 255, 2);
        Check.due("a layer of bytes 0", more.read(0), LayeredBits.NONE);
        Check.due("is the same", Make.picture(more) + more.told(0) + more.told(2), without);
        LayeredBits full = Make.filed(74, 66, 16, 16, 1, 1);
        Model due = new Model();
        due.type(0x4A4210100101L, 6);
        for (int i = 0; i < 446; i++) {
            full.type(0xFF00, 2);
            due.type(0xFF00, 2);
        }
        due.type(0xFF02, 2);
        Check.due("a file of 900 bytes", full.type(0xFF02, 2), 900);
        Check.due("is read", full.read(0), LayeredBits.NONE);
        due.read(0);
        for (int i = 0; i < 256; i++) {
            Check.due("its pixel " + i, full.get(i % 16, i / 16), due.picture[i / 16][i % 16]);
        }
    }

    private static void promise11Told() {
        LayeredBits bits = Make.drawn("1");
        for (int what : new int[] {-1, 3, Integer.MIN_VALUE, Integer.MAX_VALUE}) {
            Check.refused("told(" + what + ") before any", ARGUMENT, () -> bits.told(what));
        }
        for (int what = 0; what < 3; what++) {
            int w = what;
            Check.refused("told(" + what + ") before any", STATE, () -> bits.told(w));
        }
        Check.refused("write(0)", ARGUMENT, () -> bits.write(0));
        Check.refused("told(0) after a refused write", STATE, () -> bits.told(0));
        bits.write(2);
        String last = "" + bits.told(0) + bits.told(1) + bits.told(2);
        Check.due("told of the last layer", last, "201");
        bits.clear(9, 9);
        Check.refused("read(2)", STATE, () -> bits.read(2));
        bits.type(0, 1);
        bits.read(0);
        bits.halve();
        Check.due("told stays when calls fail", "" + bits.told(0) + bits.told(1) + bits.told(2), last);
        bits.cut(bits.size() - 1);
        bits.read(0);
        Check.due("told of the layer read", "" + bits.told(0) + bits.told(1) + bits.told(2), "111");
        bits.cut(0);
        Check.due("told stays without a file", bits.told(0), 1);
        for (int what : new int[] {-1, 3}) {
            Check.refused("told(" + what + ")", ARGUMENT, () -> bits.told(what));
        }
    }

    private static void promise12Size() {
        LayeredBits bits = new LayeredBits();
        bits.type(1, 3);
        Check.due("size() after type", bits.size(), 3);
        bits.cut(1);
        Check.due("size() after cut", bits.size(), 1);
        bits.write(1);
        Check.due("size() after write", bits.size(), 9);
        bits.read(0);
        bits.poke(8, 2);
        Check.due("size() after read and poke", bits.size(), 9);
    }

    private static void promise13ByteAt() {
        LayeredBits bits = Make.filed(74, 0, 255);
        Check.due("byteAt(0)", bits.byteAt(0), 74);
        Check.due("byteAt(2)", bits.byteAt(2), 255);
        for (int k : new int[] {-1, 3, 899, 900, Integer.MIN_VALUE, Integer.MAX_VALUE}) {
            Check.refused("byteAt(" + k + ")", INDEX, () -> bits.byteAt(k));
        }
        bits.cut(2);
        Check.refused("byteAt(2) after cut(2)", INDEX, () -> bits.byteAt(2));
        Check.refused("byteAt(0) of no file", INDEX, () -> new LayeredBits().byteAt(0));
    }

    private static void promise14Poke() {
        LayeredBits bits = Make.filed(1, 2, 3);
        bits.poke(0, 255);
        bits.poke(2, 0);
        Check.due("poked", Make.file(bits), "255 2 0");
        for (int k : new int[] {-1, 3, 900, Integer.MIN_VALUE, Integer.MAX_VALUE}) {
            Check.refused("poke(" + k + ", 1)", INDEX, () -> bits.poke(k, 1));
            Check.refused("poke(" + k + ", 256)", INDEX, () -> bits.poke(k, 256));
        }
        for (int b : new int[] {-1, 256, Integer.MIN_VALUE, Integer.MAX_VALUE}) {
            Check.refused("poke(1, " + b + ")", ARGUMENT, () -> bits.poke(1, b));
        }
        Check.due("refused pokes change nothing", Make.file(bits), "255 2 0");
    }

    private static void promise15Type() {
        LayeredBits bits = new LayeredBits();
        Check.due("type of two", bits.type(0x112233L, 2), 2);
        Check.due("type of eight", bits.type(0xFF00000000000080L, 8), 10);
        Check.due("typed", Make.file(bits), "34 51 255 0 0 0 0 0 0 128");
        for (int n : new int[] {0, 9, -1, Integer.MIN_VALUE, Integer.MAX_VALUE}) {
            Check.refused("type(1, " + n + ")", ARGUMENT, () -> bits.type(1, n));
        }
        while (bits.size() < 893) {
            bits.type(-1, 1);
        }
        Check.refused("type beyond 900", STATE, () -> bits.type(1, 8));
        Check.due("a refused type changes nothing", bits.size(), 893);
        Check.due("type up to 900", bits.type(1, 7), 900);
        Check.refused("type behind 900", STATE, () -> bits.type(1, 1));
        Check.refused("type of none behind 900", ARGUMENT, () -> bits.type(1, 0));
        Check.due("byteAt(899)", bits.byteAt(899), 1);
        Check.due("write takes the place of 900", bits.write(1), 9);
    }

    private static void promise16Cut() {
        LayeredBits bits = Make.filed(5, 6, 7);
        bits.cut(3);
        Check.due("cut to all", Make.file(bits), "5 6 7");
        for (int n : new int[] {-1, 4, Integer.MIN_VALUE, Integer.MAX_VALUE}) {
            Check.refused("cut(" + n + ")", ARGUMENT, () -> bits.cut(n));
        }
        Check.due("a refused cut changes nothing", Make.file(bits), "5 6 7");
        bits.cut(1);
        Check.due("cut(1)", Make.file(bits), "5");
        Check.refused("cut(2) of one", ARGUMENT, () -> bits.cut(2));
        bits.type(9, 1);
        Check.due("typed behind a cut", Make.file(bits), "5 9");
        bits.cut(0);
        Check.due("cut(0)", bits.size(), 0);
        bits.cut(0);
    }
}
