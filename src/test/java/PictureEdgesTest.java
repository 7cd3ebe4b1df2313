/** The sentences on pictures and their halves, and promises 1 to 8, at their edges. */
public final class PictureEdgesTest {
    private static final Class<?> ARGUMENT = IllegalArgumentException.class;
    private static final Class<?> INDEX = IndexOutOfBoundsException.class;
    private static final int LEAST = Integer.MIN_VALUE;
    private static final int MOST = Integer.MAX_VALUE;
    private static final int[][] OUTSIDE_16 = {{16, 0}, {0, 16}, {-1, 0}, {0, -1}, {16, 15}, {15, 16}, {-1, 15},
        {15, -1}, {-1, -1}, {16, 16}, {-16, 1}, {256, 0}, {LEAST, 0}, {0, LEAST}, {MOST, 0}, {0, MOST}, {MOST, LEAST}};

    public static void main(String[] args) {
        Check.sentence("A PICTURE has a width and a height, 1 .. 16", PictureEdgesTest::sizes);
        Check.sentence("outside all are 0", PictureEdgesTest::outsideOfEachSize);
        Check.sentence("outside all are 0", PictureEdgesTest::outsideAfterBecomingSmaller);
        Check.sentence("outside all are 0", PictureEdgesTest::outsideInHalves);
        Check.sentence("(width + 1) / 2 by (height + 1) / 2 pixels (rounded down)", PictureEdgesTest::sizesOfHalves);
        Check.sentence("4 times the sum of the four pixels", PictureEdgesTest::fourPixels);
        Check.sentence("and the sum of the twelve around these four", PictureEdgesTest::nothingFartherOff);
        Check.sentence("the pixel is 1 if t is above 14", PictureEdgesTest::justAbove14);
        Check.sentence("0 if t is below 14", PictureEdgesTest::justBelow14);
        Check.sentence("and else the same as the half's pixel (x - 1, y)", PictureEdgesTest::at14);
        Check.sentence("row by row from the left", PictureEdgesTest::manyAt14);
        Check.sentence("A picture of one pixel, 0; no file.", PictureEdgesTest::newObject);
        Check.sentence("A picture of this size (also the one that it has), all pixels 0", PictureEdgesTest::sameSize);
        Check.sentence("the file stays", PictureEdgesTest::fileStays);
        Check.sentence("width or height is not 1 .. 16", PictureEdgesTest::wrongSizes);
        Check.sentence("A pixel becomes b: what it was", PictureEdgesTest::whatItWas);
        Check.sentence("there is none such", PictureEdgesTest::noSuchPixel);
        Check.sentence("b is not 0 or 1", PictureEdgesTest::notABit);
        Check.sentence("A row's pixels become the lowest bits of a number", PictureEdgesTest::lowestBits);
        Check.sentence("the rightmost one the lowest", PictureEdgesTest::rightmostIsLowest);
        Check.sentence("there is no such row", PictureEdgesTest::noSuchRow);
        Check.sentence("A pixel; 0 outside.", PictureEdgesTest::getOutside);
        Check.sentence("The width.", PictureEdgesTest::widths);
        Check.sentence("The height.", PictureEdgesTest::heights);
        Check.sentence("The picture becomes its half.", PictureEdgesTest::halvesOfHalves);
        Check.finish();
    }

    private static void sizes() {
        for (int width = 1; width <= 16; width++) {
            for (int height = 1; height <= 16; height++) {
                LayeredBits bits = Make.sized(width, height);
                Check.due("size", Make.size(bits), width + " by " + height);
                Check.due("set at the last corner", bits.set(width - 1, height - 1, 1), 0);
                Check.due("the last corner", bits.get(width - 1, height - 1), 1);
            }
        }
    }

    private static void nothingOutside(String when, LayeredBits bits) {
        for (int y = -3; y <= 18; y++) {
            for (int x = -3; x <= 18; x++) {
                if (x < 0 || y < 0 || x >= bits.width() || y >= bits.height()) {
                    Check.due(when + ": get(" + x + ", " + y + ") of " + Make.size(bits), bits.get(x, y), 0);
                }
            }
        }
    }

    private static void outsideOfEachSize() {
        for (int width = 1; width <= 16; width++) {
            for (int height = 1; height <= 16; height++) {
                nothingOutside("all pixels 1", Make.ones(width, height));
            }
        }
    }

    /** What stood beyond the new borders must not be seen by get(), halve() or write(). */
    private static void outsideAfterBecomingSmaller() {
        LayeredBits halved = Make.ones(16, 16);
        halved.halve();
        sameAsFresh("halved", halved, Make.ones(8, 8));
        LayeredBits read = Make.ones(16, 16);
        read.write(3);
        read.clear(16, 16);
        for (int y = 0; y < 16; y++) {
            read.row(y, -1);
        }
        read.read(0);
        sameAsFresh("read", read, Make.ones(4, 4));
        LayeredBits cleared = Make.ones(16, 16);
        cleared.clear(5, 5);
        for (int y = 0; y < 5; y++) {
            cleared.row(y, -1);
        }
        sameAsFresh("cleared", cleared, Make.ones(5, 5));
    }

    private static void sameAsFresh(String when, LayeredBits bits, LayeredBits fresh) {
        nothingOutside(when, bits);
        Check.due(when, Make.picture(bits), Make.picture(fresh));
        bits.write(3);
        fresh.write(3);
        Check.due(when + ", then written", Make.file(bits), Make.file(fresh));
        bits.halve();
        fresh.halve();
        Check.due(when + ", then halved", Make.picture(bits), Make.picture(fresh));
    }

    /** Each border of a picture of ones takes from t what is missing outside. */
    private static void outsideInHalves() {
        halfOf("1").is("0");
        halfOf("11", "11").is("1");
        halfOf("111", "111").is("10");
        halfOf("11", "11", "11").is("1/0");
        halfOf("111", "111", "111").is("10/00");
        halfOf("1111", "1111").is("11");
        halfOf("1111111111111111").is("00000000");
        LayeredBits odd = Make.ones(15, 15);
        odd.halve();
        Check.due("15 by 15", Make.picture(odd),
            "11111110/11111111/11111111/11111111/11111111/11111111/11111111/00000000");
        LayeredBits even = Make.ones(16, 16);
        even.halve();
        Check.due("16 by 16", Make.picture(even), Make.picture(Make.ones(8, 8)));
    }

    private record Half(String whole, String half) {
        void is(String due) {
            Check.due("the half of " + whole, half, due);
        }
    }

    private static Half halfOf(String... rows) {
        LayeredBits bits = Make.drawn(rows);
        String whole = Make.picture(bits);
        bits.halve();
        return new Half(whole, Make.picture(bits));
    }

    private static void sizesOfHalves() {
        int[] halves = {0, 1, 1, 2, 2, 3, 3, 4, 4, 5, 5, 6, 6, 7, 7, 8, 8};
        for (int width = 1; width <= 16; width++) {
            for (int height = 1; height <= 16; height++) {
                LayeredBits bits = Make.sized(width, height);
                bits.halve();
                Check.due(width + " by " + height, Make.size(bits), halves[width] + " by " + halves[height]);
            }
        }
    }

    /**
     * All settings of the sixteen pixels from (1, 1) to (4, 4), which are those of the half's pixel (1, 1); its
     * neighbour to the left has at most 14 by them, so that it is always 0, and so is the pixel at 14.
     */
    private static void fourPixels() {
        LayeredBits bits = new LayeredBits();
        for (int setting = 0; setting < 65536; setting++) {
            bits.clear(6, 6);
            for (int y = 0; y < 4; y++) {
                bits.row(1 + y, (setting >> (4 * y) & 15) << 1);
            }
            bits.halve();
            int t = Integer.bitCount(setting) + 3 * Integer.bitCount(setting & 0x0660);
            Check.due("sixteen pixels " + Integer.toBinaryString(setting), bits.get(1, 1), t > 14 ? 1 : 0);
        }
    }

    /** Pixels that are not among the sixteen do not lift 14 to 15. */
    private static void nothingFartherOff() {
        for (int place = 0; place < 64; place++) {
            int x = place % 8;
            int y = place / 8;
            LayeredBits bits = Make.drawn("00000000", "00000000", "00110000", "00011000", "00001000", "00000000",
                "00000000", "00000000");
            boolean near = x >= 1 && x <= 4 && y >= 1 && y <= 4;
            int lifts = near && bits.get(x, y) == 0 ? 1 : 0;
            bits.set(x, y, 1);
            bits.halve();
            Check.due("14 and a pixel (" + x + ", " + y + ")", bits.get(1, 1), lifts);
        }
    }

    /** The pixel that is looked at has 15. */
    private static void justAbove14() {
        halfOf("111", "101", "100").is("10/00");
        halfOf("00011", "01111").is("010");
        halfOf("000010", "011110", "011110").is("010/000");
    }

    /** The pixel that is looked at has 13; in the last picture it is behind a 1. */
    private static void justBelow14() {
        halfOf("111", "100").is("00");
        halfOf("11", "10", "10").is("0/0");
        halfOf("010000", "111100", "011010").is("100/000");
    }

    private static void at14() {
        halfOf("1111", "1110").is("11");
        halfOf("1101", "1111").is("11");
        halfOf("0111", "0110").is("00");
        halfOf("111", "101").is("00");
        // The pixel (x - 1, y) of the picture itself is another one here.
        halfOf("1101", "0111").is("00");
        halfOf("0110", "1111", "1000").is("11/00");
        // The last two have 14 at the left of their second row: below a 1, and behind a row that ends with 1.
        halfOf("110000", "110000", "110000", "100000").is("100/000");
        halfOf("000011", "000011", "111000", "101000").is("001/000");
    }

    private static void manyAt14() {
        halfOf("010001", "111111", "011010").is("111/000");
        halfOf("01100", "11110").is("000");
        // In the last row of 15 by 15 ones each pixel but the first has 14; so has each inside the last column.
        LayeredBits bits = Make.ones(15, 15);
        bits.halve();
        for (int i = 0; i < 8; i++) {
            Check.due("(" + i + ", 7) follows a 0", bits.get(i, 7), 0);
            Check.due("(7, " + i + ") follows a 1 in the middle", bits.get(7, i), i >= 1 && i <= 6 ? 1 : 0);
        }
    }

    private static void newObject() {
        LayeredBits bits = new LayeredBits();
        Check.due("size", Make.size(bits), "1 by 1");
        Check.due("get(0, 0)", bits.get(0, 0), 0);
        Check.due("size()", bits.size(), 0);
        Check.refused("byteAt(0)", INDEX, () -> bits.byteAt(0));
        Check.due("read(0) fails at the place", bits.read(0), 0);
        Check.refused("told(0)", IllegalStateException.class, () -> bits.told(0));
    }

    private static void sameSize() {
        for (int side : new int[] {1, 7, 16}) {
            LayeredBits bits = Make.ones(side, side);
            bits.clear(side, side);
            Check.due("clear of " + side, Make.picture(bits), Make.picture(Make.sized(side, side)));
        }
        LayeredBits bits = Make.ones(16, 16);
        bits.clear(1, 1);
        bits.clear(16, 16);
        Check.due("small and large again", Make.picture(bits), Make.picture(Make.sized(16, 16)));
    }

    private static void fileStays() {
        LayeredBits bits = Make.ones(3, 3);
        bits.write(2);
        String file = Make.file(bits);
        String told = Make.told(bits);
        bits.clear(3, 3);
        bits.clear(16, 1);
        Check.due("file", Make.file(bits), file);
        Check.due("told", Make.told(bits), told);
    }

    private static void wrongSizes() {
        LayeredBits bits = Make.ones(2, 2);
        for (int wrong : new int[] {0, 17, -1, 16 - 256, 256 + 1, LEAST, MOST}) {
            Check.refused("clear(" + wrong + ", 1)", ARGUMENT, () -> bits.clear(wrong, 1));
            Check.refused("clear(16, " + wrong + ")", ARGUMENT, () -> bits.clear(16, wrong));
            Check.refused("clear(" + wrong + ", " + wrong + ")", ARGUMENT, () -> bits.clear(wrong, wrong));
        }
        Check.due("picture", Make.picture(bits), "11/11");
    }

    private static void whatItWas() {
        LayeredBits bits = Make.sized(16, 16);
        for (int corner : new int[] {0, 15}) {
            Check.due("0 to 0", bits.set(corner, 15, 0), 0);
            Check.due("0 to 1", bits.set(corner, 15, 1), 0);
            Check.due("1 to 1", bits.set(corner, 15, 1), 1);
            Check.due("1 to 0", bits.set(corner, 15, 0), 1);
            Check.due("and 0 it is", bits.set(corner, 15, 0), 0);
        }
        Check.due("nothing is left", Make.picture(bits), Make.picture(Make.sized(16, 16)));
    }

    private static void noSuchPixel() {
        LayeredBits full = Make.sized(16, 16);
        for (int[] o : OUTSIDE_16) {
            Check.refused("set(" + o[0] + ", " + o[1] + ", 1)", INDEX, () -> full.set(o[0], o[1], 1));
        }
        LayeredBits small = Make.sized(3, 2);
        for (int[] o : new int[][] {{3, 0}, {0, 2}, {3, 2}, {2, 2}, {3, 1}, {15, 0}, {0, 15}}) {
            Check.refused("set(" + o[0] + ", " + o[1] + ", 1) of 3 by 2", INDEX, () -> small.set(o[0], o[1], 1));
        }
        Check.due("pictures", Make.picture(full) + Make.picture(small),
            Make.picture(Make.sized(16, 16)) + Make.picture(Make.sized(3, 2)));
    }

    private static void notABit() {
        LayeredBits bits = Make.drawn("01");
        for (int b : new int[] {2, -1, 3, 256, LEAST, MOST}) {
            Check.refused("set(0, 0, " + b + ")", ARGUMENT, () -> bits.set(0, 0, b));
            Check.refused("set(1, 0, " + b + ")", ARGUMENT, () -> bits.set(1, 0, b));
        }
        Check.due("picture", Make.picture(bits), "01");
    }

    private static void lowestBits() {
        int[] numbers = {0, 1, -1, -2, LEAST, MOST, 0x10000, 0x18000, 0xAAAA5555, 0x5555AAAA};
        for (int width = 1; width <= 16; width++) {
            for (int number : numbers) {
                LayeredBits bits = Make.sized(width, 3);
                bits.row(1, number);
                StringBuilder due = new StringBuilder();
                for (int x = 0; x < width; x++) {
                    due.insert(0, number >> x & 1);
                }
                String zeros = "0".repeat(width);
                Check.due("row(1, " + number + ")", Make.picture(bits), zeros + "/" + due + "/" + zeros);
                bits.row(1, 0);
                Check.due("row(1, 0)", Make.picture(bits), zeros + "/" + zeros + "/" + zeros);
            }
        }
    }

    private static void rightmostIsLowest() {
        for (int width = 1; width <= 16; width++) {
            LayeredBits bits = Make.sized(width, 1);
            bits.row(0, 1);
            Check.due("the rightmost of " + width, bits.get(width - 1, 0), 1);
            bits.row(0, 1 << (width - 1));
            Check.due("the leftmost of " + width, bits.get(0, 0), 1);
            bits.row(0, 1 << width);
            Check.due("the one beyond", Make.picture(bits), "0".repeat(width));
        }
    }

    private static void noSuchRow() {
        for (int height : new int[] {1, 3, 16}) {
            LayeredBits bits = Make.sized(2, height);
            for (int y : new int[] {-1, height, 16, 17, -16, LEAST, MOST}) {
                Check.refused("row(" + y + ", 3) of " + height, INDEX, () -> bits.row(y, 3));
            }
            bits.row(height - 1, 3);
            Check.due("the last row", bits.get(0, height - 1) + bits.get(1, height - 1), 2);
        }
    }

    private static void getOutside() {
        LayeredBits bits = Make.ones(16, 16);
        for (int[] o : OUTSIDE_16) {
            Check.due("get(" + o[0] + ", " + o[1] + ")", bits.get(o[0], o[1]), 0);
        }
        Check.due("corners", bits.get(0, 0) + bits.get(15, 0) + bits.get(0, 15) + bits.get(15, 15), 4);
    }

    private static void widths() {
        LayeredBits bits = Make.filed(74, 66, 16, 1, 1, 255, 2);
        Check.due("new", bits.width(), 1);
        bits.read(0);
        Check.due("read", bits.width(), 16);
        bits.halve();
        Check.due("halved", bits.width(), 8);
        bits.clear(3, 5);
        Check.due("cleared", bits.width(), 3);
        Check.refused("clear(5, 0)", ARGUMENT, () -> bits.clear(5, 0));
        Check.due("not cleared", bits.width(), 3);
    }

    private static void heights() {
        LayeredBits bits = Make.filed(74, 66, 1, 16, 1, 255, 2);
        Check.due("new", bits.height(), 1);
        bits.read(0);
        Check.due("read", bits.height(), 16);
        bits.halve();
        Check.due("halved", bits.height(), 8);
        bits.clear(3, 5);
        Check.due("cleared", bits.height(), 5);
        Check.refused("clear(0, 7)", ARGUMENT, () -> bits.clear(0, 7));
        Check.due("not cleared", bits.height(), 5);
    }

    private static void halvesOfHalves() {
        LayeredBits bits = Make.ones(16, 16);
        for (int side : new int[] {8, 4, 2, 1}) {
            bits.halve();
            Check.due("halved to " + side, Make.picture(bits), Make.picture(Make.ones(side, side)));
        }
        bits.halve();
        Check.due("a pixel has 4 only", Make.picture(bits), "0");
        bits.halve();
        Check.due("and stays one pixel", Make.picture(bits), "0");
    }
}
