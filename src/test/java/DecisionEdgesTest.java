/**
 * The sentences on decisions, on the bytes of a number and on taking decisions, at their edges. The pictures were
 * searched for with the model, which tells whether a picture still meets its edge; the smallest were also found by
 * hand.
 */
public final class DecisionEdgesTest {
    /** Its context 0 comes to state 23, is held there, falls to 21 and comes to 23 again. */
    private static final String[] ALL_STATES = {
        "0001000000000000", "0000000000000000", "0001010100000000", "0001000000000000",
        "0101000000000000", "0001000000000000", "0101000000000000", "0000000000000000",
        "0001000000000000", "0110010010000000", "1101000000000000", "1111001000000000",
        "0100000000000000", "0001000000000001", "0110000000000011", "0110100000001110"};
    private static final String FILE_OF_ALL_STATES = "74 66 16 16 1 102 224 3 172 66 239 170 129 25 160 18 7 127 205 179"
        + " 242 101 229 16 255 2";

    public static void main(String[] args) {
        Check.sentence("A CONTEXT has a STATE 0 .. 23", () -> meets(Model.Edge.STATE_STAYS_23, FILE_OF_ALL_STATES, ALL_STATES));
        Check.sentence("and a FAVOURITE, both 0 at first", DecisionEdgesTest::bothAre0AtFirst);
        Check.sentence("Q of state i is", DecisionEdgesTest::allStates);
        Check.sentence("CODE, a number, is 0 at first, and SPAN 65536", DecisionEdgesTest::codeAndSpanAtFirst);
        Check.sentence("if span is 32768 or more, that is all", DecisionEdgesTest::halfIsAll);
        Check.sentence("otherwise, if span is below Q, code grows by span and span becomes Q", DecisionEdgesTest::favouriteBelowQ);
        Check.sentence("and the state becomes one more, but at most 23", DecisionEdgesTest::atMost23);
        Check.sentence("if span is not below Q, code grows by span and span becomes Q", DecisionEdgesTest::otherNotBelowQ);
        Check.sentence("if the state is 0, the favourite becomes b", DecisionEdgesTest::favouriteChanges);
        Check.sentence("otherwise the state becomes 2 less, but at least 0", DecisionEdgesTest::atLeast0);
        Check.sentence("while span is below 32768, both are doubled", DecisionEdgesTest::doubledToHalf);
        Check.sentence("code is a number of 16 + d binary digits", DecisionEdgesTest::numberOfDigits);
        Check.sentence("its BYTES are these, from the highest on", DecisionEdgesTest::longCarry);
        Check.sentence("with zeros behind them to a whole byte", DecisionEdgesTest::wholeBytes);
        Check.sentence("but without bytes 0 at the end", DecisionEdgesTest::noBytes0AtTheEnd);
        Check.sentence("(zeros behind them without end)", DecisionEdgesTest::zerosWithoutEnd);
        Check.sentence("V is the first 16 digits of these at first", DecisionEdgesTest::first16Digits);
        Check.sentence("V is below span, then the decision is the favourite if span is not below Q", DecisionEdgesTest::belowSpan);
        Check.sentence("otherwise the other one", DecisionEdgesTest::belowSpanBelowQ);
        Check.sentence("if V is not below span, it is the other way round", DecisionEdgesTest::spanIsQ);
        Check.sentence("with each doubling V becomes 2 V and the next digit", DecisionEdgesTest::nextDigits);
        Check.finish();
    }

    /** The picture meets the edge, its file is the one due, and it is read again. */
    private static void meets(Model.Edge edge, String file, String... rows) {
        LayeredBits bits = Make.drawn(rows);
        String picture = Make.picture(bits);
        Model model = Make.modelOf(bits);
        Check.due(picture + ": write(1)", bits.write(1), model.write(1));
        Check.due(picture + " has met " + edge, model.met.contains(edge) ? 1 : 0, 1);
        Check.due(picture + ": file", Make.file(bits), file);
        Check.due(picture + ": file of the model", Make.file(model), file);
        Check.due(picture + ": told", Make.told(bits), Make.told(model));
        bits.clear(1, 1);
        Check.due(picture + ": read(0)", bits.read(0), LayeredBits.NONE);
        Check.due("picture read", Make.picture(bits), picture);
        Check.due(picture + ": told of reading", Make.told(bits), Make.told(model));
    }

    /** A layer of these bytes, none of them 255. */
    private static void layer(int width, int height, int[] bytes, String picture, String told) {
        LayeredBits bits = Make.filed(74, 66, width, height, 1);
        for (int b : bytes) {
            bits.type(b, 1);
        }
        bits.type(0xFF02, 2);
        Check.due(Make.file(bits) + ": read(0)", bits.read(0), LayeredBits.NONE);
        Check.due(Make.file(bits) + ": picture", Make.picture(bits), picture);
        Check.due(Make.file(bits) + ": told", Make.told(bits), told);
    }

    /**
     * With another favourite or state at first, 42468 would not part the decisions: below it are those for 0, which
     * leave span at 42468 (state 1 would leave 46536).
     */
    private static void bothAre0AtFirst() {
        layer(1, 1, new int[] {0xA5, 0xE3}, "0", "2 0 1");
        layer(1, 1, new int[] {0xA5, 0xE4}, "0", "1 1 1");
        layer(1, 1, new int[] {254, 254}, "0", "1 1 1");
        layer(1, 1, new int[] {}, "1", "2 0 1");
    }

    /** Where another Q, of whichever state, would change the file or what is told. */
    private static void allStates() {
        LayeredBits bits = Make.drawn(ALL_STATES);
        bits.write(1);
        Check.due("file", Make.file(bits), FILE_OF_ALL_STATES);
        Check.due("told", Make.told(bits), "272 0 152");
    }

    /** A plain row puts a decision 1: code becomes 65536 - 23068, which is 42468, and is doubled once. */
    private static void codeAndSpanAtFirst() {
        meets(Model.Edge.FAVOURITE_CHANGES, "74 66 1 1 1 165 228 255 2", "0");
        meets(Model.Edge.NO_BYTES, "74 66 1 1 1 255 2", "1");
    }

    /** Also the state stays then: in the first picture its context has decisions to come. */
    private static void halfIsAll() {
        meets(Model.Edge.HALF_IS_ALL, "74 66 4 9 1 154 174 155 150 253 240 255 2",
            "0101", "0000", "0010", "0000", "1000", "0100", "0000", "0000", "0000");
        meets(Model.Edge.NEARLY_HALF_IS_NOT_ALL,
            "74 66 16 13 1 102 224 3 172 66 239 170 129 25 160 18 7 69 36 162 128 255 2",
            "0001000000000000", "0000000000000000", "0001010100000000", "0001000000000000", "0101000000000000",
            "0001000000000000", "0101000000000000", "0000000000000000", "0001000000000000", "0110010010000000",
            "1101000000000000", "1100010000000000", "0001100000000000");
    }

    /** 42468 - 23068 is 19400, below Q; 46136 - 23068 is 23068, Q itself. */
    private static void favouriteBelowQ() {
        meets(Model.Edge.FAVOURITE_ABOVE, "74 66 2 1 1 30 186 255 2", "10");
        meets(Model.Edge.FAVOURITE_AT_Q, "74 66 1 2 1 165 228 255 2", "0", "0");
    }

    private static void atMost23() {
        meets(Model.Edge.STATE_STAYS_23, FILE_OF_ALL_STATES, ALL_STATES);
        meets(Model.Edge.STATE_23_FALLS, FILE_OF_ALL_STATES, ALL_STATES);
    }

    private static void otherNotBelowQ() {
        meets(Model.Edge.OTHER_BELOW, "74 66 1 1 1 255 2", "1");
        meets(Model.Edge.OTHER_AT_Q, "74 66 1 2 1 233 121 255 2", "0", "1");
    }

    private static void favouriteChanges() {
        meets(Model.Edge.FAVOURITE_CHANGES, "74 66 1 2 1 233 121 255 2", "0", "1");
        meets(Model.Edge.FAVOURITE_COMES_BACK, "74 66 1 3 1 244 188 128 255 2", "0", "1", "1");
        // In state 1 it stays.
        meets(Model.Edge.STATE_1_FALLS, "74 66 1 4 1 192 100 255 2", "0", "0", "1", "1");
    }

    /** From 1 and from 2 it falls to 0, and the favourite stays; each context has a decision to come. */
    private static void atLeast0() {
        meets(Model.Edge.STATE_1_FALLS, "74 66 1 4 1 196 221 160 255 2", "0", "0", "1", "0");
        meets(Model.Edge.STATE_1_FALLS, "74 66 1 4 1 192 100 255 2", "0", "0", "1", "1");
        meets(Model.Edge.STATE_2_FALLS, "74 66 1 5 1 42 145 144 255 2", "1", "0", "1", "1", "0");
    }

    private static void doubledToHalf() {
        meets(Model.Edge.DOUBLED_TO_HALF, "74 66 6 6 1 163 195 45 52 210 9 255 2",
            "010111", "011111", "010110", "011100", "101111", "100000");
    }

    private static void numberOfDigits() {
        meets(Model.Edge.FIRST_BYTE_0, "74 66 7 1 1 0 116 152 255 2", "1101110");
        meets(Model.Edge.INNER_BYTE_0, "74 66 2 4 1 148 0 80 255 2", "01", "00", "00", "01");
    }

    /** A carry changes more than 32 digits. */
    private static void longCarry() {
        meets(Model.Edge.LONG_CARRY, "74 66 4 8 1 54 24 0 1 61 165 255 2",
            "1010", "0010", "1001", "1011", "0010", "0110", "0010", "1011");
    }

    private static void wholeBytes() {
        meets(Model.Edge.WHOLE_BYTES, "74 66 1 5 1 46 54 208 255 2", "1", "0", "0", "0", "1");
        meets(Model.Edge.FILLED_BYTE, "74 66 1 3 1 38 88 64 255 2", "1", "0", "1");
    }

    private static void noBytes0AtTheEnd() {
        meets(Model.Edge.NO_BYTES, "74 66 1 1 1 255 2", "1");
        meets(Model.Edge.SEVERAL_LAST_BYTES_0, "74 66 1 6 1 43 250 255 2", "1", "0", "0", "0", "0", "1");
    }

    /** No byte, some bytes 0 and many of them are the same number; so is any number with zeros behind it. */
    private static void zerosWithoutEnd() {
        Model model = Make.modelOf(Make.filed(74, 66, 16, 16, 1, 255, 2));
        model.read(0);
        layer(16, 16, new int[] {}, Make.picture(model), Make.told(model));
        layer(16, 16, new int[] {0}, Make.picture(model), Make.told(model));
        layer(16, 16, new int[200], Make.picture(model), Make.told(model));
        layer(1, 1, new int[] {166}, "0", "1 1 1");
        layer(1, 1, new int[] {166, 0, 0, 0, 0}, "0", "1 1 1");
        // Nothing is left of a longer number that was taken before.
        LayeredBits bits = Make.filed(74, 66, 16, 16, 1);
        while (bits.size() < 100) {
            bits.type(90, 1);
        }
        bits.type(0xFF02, 2);
        Check.due("read of a long number", bits.read(0), LayeredBits.NONE);
        bits.cut(5);
        bits.type(0xFF02, 2);
        Check.due("read without bytes", bits.read(0), LayeredBits.NONE);
        Check.due("picture without bytes", Make.picture(bits), Make.picture(model));
        Check.due("told without bytes", Make.told(bits), Make.told(model));
    }

    private static void first16Digits() {
        layer(1, 1, new int[] {0xA5}, "0", "2 0 1");
        layer(1, 1, new int[] {0xA5, 0xE3, 0xFE, 0xFE}, "0", "2 0 1");
        layer(1, 1, new int[] {0xA5, 0xE4, 0, 0}, "0", "1 1 1");
    }

    /** The first decision, whether a row is plain: span is 42468, above Q. */
    private static void belowSpan() {
        layer(1, 1, new int[] {42467 >> 8, 42467 & 255}, "0", "2 0 1");
        layer(1, 1, new int[] {42468 >> 8, 42468 & 255}, "0", "1 1 1");
    }

    /** The second decision, a pixel: span is 19400, below Q. */
    private static void belowSpanBelowQ() {
        layer(1, 1, new int[] {19399 >> 8, 19399 & 255}, "1", "2 0 1");
        layer(1, 1, new int[] {19400 >> 8, 19400 & 255}, "0", "2 0 1");
    }

    /**
     * The second row, when the first was plain: span is 23068, Q itself. V is 23067 if the 17 digits are 54001 and 1,
     * and 23068 if they are 54002 and 0.
     */
    private static void spanIsQ() {
        layer(1, 2, new int[] {54001 >> 8, 54001 & 255, 128}, "0/0", "2 2 2");
        layer(1, 2, new int[] {54002 >> 8, 54002 & 255}, "0/0", "3 1 3");
    }

    /** The eighteenth digit decides on the last pixel. */
    private static void nextDigits() {
        layer(1, 3, new int[] {38, 88, 63}, "1/0/0", "6 0 5");
        layer(1, 3, new int[] {38, 88, 64}, "1/0/1", "6 0 5");
    }
}
