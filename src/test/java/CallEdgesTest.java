import java.util.ArrayList;
import java.util.List;

/** Which exception a call throws when several would do, that it changes nothing, and how many calls there may be. */
public final class CallEdgesTest {
    private static final Class<?> ARGUMENT = IllegalArgumentException.class;
    private static final Class<?> INDEX = IndexOutOfBoundsException.class;
    private static final Class<?> STATE = IllegalStateException.class;
    private static final int LEAST = Integer.MIN_VALUE;
    private static final int MOST = Integer.MAX_VALUE;

    public static void main(String[] args) {
        Check.sentence("Methods throw what their comments name, the one named first when several would do",
            CallEdgesTest::namedFirst);
        Check.sentence("a call that throws changes nothing", CallEdgesTest::nothingChanges);
        Check.sentence("An object is used for at most 512 calls after it has been made", CallEdgesTest::manyCalls);
        Check.finish();
    }

    /** A file of 900 bytes: three layers, the last one with more bytes than it needs. */
    private static LayeredBits full() {
        LayeredBits bits = Make.filed(74, 66, 5, 3, 3, 9, 8, 255, 2, 255, 7, 1, 7, 255, 2);
        while (bits.size() < 898) {
            bits.type(77, 1);
        }
        bits.type(0xFF02, 2);
        return bits;
    }

    private static void namedFirst() {
        LayeredBits bits = Make.drawn("10", "01");
        Check.refused("set of no pixel to no bit", INDEX, () -> bits.set(2, 0, 2));
        Check.refused("set of no pixel to no bit", INDEX, () -> bits.set(0, -1, -1));
        Check.refused("poke of no byte, no byte", INDEX, () -> bits.poke(0, 256));
        Check.refused("poke of no byte, no byte", INDEX, () -> bits.poke(-1, -1));
        Check.refused("read(-1) of no file", ARGUMENT, () -> bits.read(-1));
        Check.refused("told(3) of none", ARGUMENT, () -> bits.told(3));
        Check.refused("told(-1) of none", ARGUMENT, () -> bits.told(-1));
        LayeredBits full = full();
        Check.refused("type(0, 9) behind 900", ARGUMENT, () -> full.type(0, 9));
        Check.refused("type(0, 0) behind 900", ARGUMENT, () -> full.type(0, 0));
        Check.refused("type(0, MOST) behind 900", ARGUMENT, () -> full.type(0, MOST));
        Check.refused("read(-1) of three layers", ARGUMENT, () -> full.read(-1));
        full.poke(0, 75);
        Check.refused("read(-1) of a file that fails", ARGUMENT, () -> full.read(-1));
        Check.due("read(3) of a file that fails", full.read(3), 0);
    }

    /** What throws on every object. */
    private static List<Check.Action> refusedOf(LayeredBits bits) {
        List<Check.Action> calls = new ArrayList<>();
        int width = bits.width();
        int height = bits.height();
        for (int wrong : new int[] {0, -1, 17, LEAST, MOST}) {
            calls.add(() -> bits.clear(wrong, 1));
            calls.add(() -> bits.clear(1, wrong));
        }
        for (int[] none : new int[][] {{-1, 0}, {0, -1}, {width, 0}, {0, height}, {LEAST, MOST}}) {
            calls.add(() -> bits.set(none[0], none[1], 1));
            calls.add(() -> bits.set(none[0], none[1], 0));
            calls.add(() -> bits.set(none[0], none[1], 2));
        }
        for (int wrong : new int[] {-1, 2, LEAST, MOST}) {
            calls.add(() -> bits.set(0, 0, wrong));
            calls.add(() -> bits.set(width - 1, height - 1, wrong));
        }
        for (int none : new int[] {-1, height, LEAST, MOST}) {
            calls.add(() -> bits.row(none, -1));
            calls.add(() -> bits.row(none, 0));
        }
        for (int wrong : new int[] {0, 4, -1, LEAST, MOST}) {
            calls.add(() -> bits.write(wrong));
        }
        for (int wrong : new int[] {-1, LEAST}) {
            calls.add(() -> bits.read(wrong));
        }
        for (int wrong : new int[] {-1, 3, LEAST, MOST}) {
            calls.add(() -> bits.told(wrong));
        }
        addRefusedOfFile(bits, calls);
        return calls;
    }

    private static void addRefusedOfFile(LayeredBits bits, List<Check.Action> calls) {
        int size = bits.size();
        for (int none : new int[] {-1, size, 900, LEAST, MOST}) {
            calls.add(() -> bits.byteAt(none));
            calls.add(() -> bits.poke(none, 1));
            calls.add(() -> bits.poke(none, 256));
        }
        for (int wrong : new int[] {0, 9, -1, LEAST, MOST}) {
            calls.add(() -> bits.type(-1, wrong));
        }
        for (int wrong : new int[] {-1, size + 1, LEAST, MOST}) {
            calls.add(() -> bits.cut(wrong));
        }
        if (size > 0) {
            for (int wrong : new int[] {-1, 256, LEAST, MOST}) {
                calls.add(() -> bits.poke(0, wrong));
                calls.add(() -> bits.poke(size - 1, wrong));
            }
        }
    }

    private static void nothingChangesIn(String name, LayeredBits bits, List<Check.Action> more) {
        List<Check.Action> calls = refusedOf(bits);
        calls.addAll(more);
        String before = Make.everything(bits);
        for (int i = 0; i < calls.size(); i++) {
            Check.due(name + ": call " + i + " throws", Check.outcome(calls.get(i)).startsWith("throws.") ? 1 : 0, 1);
            Check.due(name + ": everything after call " + i, Make.everything(bits), before);
        }
    }

    private static void nothingChanges() {
        LayeredBits fresh = new LayeredBits();
        nothingChangesIn("new", fresh, List.of(() -> fresh.told(0), () -> fresh.told(1), () -> fresh.told(2)));
        LayeredBits written = Make.drawn("1011", "0110", "1101");
        written.write(2);
        written.clear(7, 5);
        written.row(3, 77);
        nothingChangesIn("written", written, List.of(() -> written.read(2), () -> written.read(MOST)));
        LayeredBits full = full();
        full.read(1);
        full.halve();
        nothingChangesIn("full", full, List.of(() -> full.read(3), () -> full.type(1, 1), () -> full.type(1, 8)));
        LayeredBits nearlyFull = full();
        nearlyFull.read(2);
        nearlyFull.cut(893);
        nothingChangesIn("nearly full", nearlyFull, List.of(() -> nearlyFull.type(-1, 8)));
        LayeredBits large = Make.ones(16, 16);
        nothingChangesIn("large, without a file", large, List.of(() -> large.told(1)));
    }

    /** 512 calls of the dearest kinds answer as the model does, to the last one. */
    private static void manyCalls() {
        LayeredBits bits = new LayeredBits();
        Model model = new Model();
        bits.clear(16, 16);
        model.clear(16, 16);
        for (int call = 2; call <= 512; call++) {
            String what = "call " + call;
            switch (call % 4) {
                case 0 -> Check.due(what, bits.write(3), model.write(3));
                case 1 -> Check.due(what, bits.read(2), model.read(2));
                case 2 -> Check.due(what, bits.set(call % 16, call / 16 % 16, 1), model.set(call % 16, call / 16 % 16, 1));
                default -> {
                    bits.row(call % 16, call * 7919);
                    model.row(call % 16, call * 7919);
                }
            }
        }
        Check.due("picture", Make.picture(bits), Make.picture(model));
        Check.due("file", Make.file(bits), Make.file(model));
        Check.due("told", Make.told(bits), Make.told(model));
    }
}
