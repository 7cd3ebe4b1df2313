import java.util.Arrays;

/** Pictures of black and white, coded in layers, and the files that hold them. */
public final class LayeredBits {
    public static final int NONE = -1;

    private static final int LARGEST_SIDE = 16;
    private static final int MOST_LAYERS = 3;
    private static final int MOST_FILE_BYTES = 900;
    private static final int BYTE_MASK = 255;

    private static final int FIRST_SIGN = 74;
    private static final int SECOND_SIGN = 66;
    private static final int ESCAPE = 255;
    private static final int ESCAPED_BYTE = 0;
    private static final int LAYER_END = 2;
    private static final int REMARKS = 7;

    private static final int WHOLE_SPAN = 65536;
    private static final int HALF_SPAN = 32768;
    private static final int SPAN_DIGITS = 16;
    private static final int LAST_STATE = 23;
    private static final int CONTEXTS = 2563;
    private static final int PLAIN_CONTEXT = 2560;
    private static final int LAYER_CONTEXTS = 512;
    private static final int[] Q = {
        23068, 19000, 15000, 12000, 9600, 7600, 6000, 4800, 3800, 3000, 2400, 1900,
        1500, 1200, 950, 750, 600, 480, 380, 300, 240, 190, 150, 120
    };

    // A layer has at most 16 rows of 17 decisions; the smallest Q, 120, is doubled 9 times.
    private static final int MOST_DIGITS = SPAN_DIGITS + 16 * 17 * 9;

    private static final int TOLD_DECISIONS = 0;
    private static final int TOLD_PLAIN_ROWS = 1;
    private static final int TOLD_DOUBLINGS = 2;

    private final Picture picture = new Picture();
    private final LayeredFile file = new LayeredFile();
    private final LayerStack stack = new LayerStack();
    private final MadeNumber made = new MadeNumber();
    private final TakenNumber taken = new TakenNumber();
    private boolean anyLayerCoded = false;

    public LayeredBits() {
    }

    public void clear(int width, int height) throws IllegalArgumentException {
        if (width < 1 || width > LARGEST_SIDE || height < 1 || height > LARGEST_SIDE) {
            throw new IllegalArgumentException();
        }
        picture.blank(width, height);
    }

    public int set(int x, int y, int b) throws IndexOutOfBoundsException, IllegalArgumentException {
        if (!picture.covers(x, y)) {
            throw new IndexOutOfBoundsException();
        }
        if (b != 0 && b != 1) {
            throw new IllegalArgumentException();
        }
        int before = picture.pixel(x, y);
        picture.paint(x, y, b);
        return before;
    }

    public void row(int y, int bits) throws IndexOutOfBoundsException {
        if (!picture.covers(0, y)) {
            throw new IndexOutOfBoundsException();
        }
        for (int x = 0; x < picture.wide; x++) {
            picture.paint(x, y, (bits >> (picture.wide - 1 - x)) & 1);
        }
    }

    public int get(int x, int y) {
        return picture.pixel(x, y);
    }

    public int width() {
        return picture.wide;
    }

    public int height() {
        return picture.high;
    }

    public void halve() {
        stack.split(picture, 2);
        picture.become(stack.layers[0]);
    }

    public int write(int layers) throws IllegalArgumentException {
        if (layers < 1 || layers > MOST_LAYERS) {
            throw new IllegalArgumentException();
        }
        stack.split(picture, layers);
        file.keep(0);
        file.append(FIRST_SIGN);
        file.append(SECOND_SIGN);
        file.append(picture.wide);
        file.append(picture.high);
        file.append(layers);
        for (int k = 0; k < layers; k++) {
            made.begin();
            stack.codeLayer(k, made);
            made.appendTo(file);
            file.append(ESCAPE);
            file.append(LAYER_END);
        }
        anyLayerCoded = true;
        return file.length;
    }

    public int read(int layer) throws IllegalArgumentException, IllegalStateException {
        if (layer < 0) {
            throw new IllegalArgumentException();
        }
        int failure = file.failure();
        if (failure != NONE) {
            return failure;
        }
        if (layer >= file.layerCount) {
            throw new IllegalStateException();
        }
        stack.blank(file.layerCount, file.wide, file.high);
        for (int k = 0; k <= layer; k++) {
            taken.begin(file, k);
            stack.codeLayer(k, taken);
        }
        picture.become(stack.layers[layer]);
        anyLayerCoded = true;
        return NONE;
    }

    public int told(int what) throws IllegalArgumentException, IllegalStateException {
        if (what < TOLD_DECISIONS || what > TOLD_DOUBLINGS) {
            throw new IllegalArgumentException();
        }
        if (!anyLayerCoded) {
            throw new IllegalStateException();
        }
        if (what == TOLD_DECISIONS) {
            return stack.coder.decisions;
        }
        return what == TOLD_PLAIN_ROWS ? stack.plainRows : stack.coder.doublings;
    }

    public int size() {
        return file.length;
    }

    public int byteAt(int k) throws IndexOutOfBoundsException {
        if (!file.has(k)) {
            throw new IndexOutOfBoundsException();
        }
        return file.at(k);
    }

    public void poke(int k, int b) throws IndexOutOfBoundsException, IllegalArgumentException {
        if (!file.has(k)) {
            throw new IndexOutOfBoundsException();
        }
        if (b < 0 || b > BYTE_MASK) {
            throw new IllegalArgumentException();
        }
        file.change(k, b);
    }

    public int type(long bytes, int n) throws IllegalArgumentException, IllegalStateException {
        if (n < 1 || n > 8) {
            throw new IllegalArgumentException();
        }
        if (file.length + n > MOST_FILE_BYTES) {
            throw new IllegalStateException();
        }
        for (int i = n - 1; i >= 0; i--) {
            file.append((int) (bytes >> (8 * i)) & BYTE_MASK);
        }
        return file.length;
    }

    public void cut(int n) throws IllegalArgumentException {
        if (n < 0 || n > file.length) {
            throw new IllegalArgumentException();
        }
        file.keep(n);
    }

    private static int halfSide(int side) {
        return (side + 1) / 2;
    }

    /** Pixels 0 or 1, all of them 0 outside. */
    private static final class Picture {
        private final int[] pixels = new int[LARGEST_SIDE * LARGEST_SIDE];
        private int wide = 1;
        private int high = 1;

        void blank(int newWide, int newHigh) {
            wide = newWide;
            high = newHigh;
            Arrays.fill(pixels, 0);
        }

        boolean covers(int x, int y) {
            return x >= 0 && x < wide && y >= 0 && y < high;
        }

        int pixel(int x, int y) {
            return covers(x, y) ? pixels[LARGEST_SIDE * y + x] : 0;
        }

        void paint(int x, int y, int b) {
            if (covers(x, y)) {
                pixels[LARGEST_SIDE * y + x] = b;
            }
        }

        void become(Picture other) {
            wide = other.wide;
            high = other.high;
            System.arraycopy(other.pixels, 0, pixels, 0, pixels.length);
        }

        void becomeHalfOf(Picture whole) {
            blank(halfSide(whole.wide), halfSide(whole.high));
            for (int y = 0; y < high; y++) {
                for (int x = 0; x < wide; x++) {
                    int weight = whole.weightAround(2 * x, 2 * y);
                    int undecided = pixel(x - 1, y);
                    paint(x, y, weight == 14 ? undecided : weight > 14 ? 1 : 0);
                }
            }
        }

        private int weightAround(int left, int top) {
            // The inner four are in the sum of all sixteen once already.
            return 3 * sumOfSquare(left, top, 2) + sumOfSquare(left - 1, top - 1, 4);
        }

        private int sumOfSquare(int left, int top, int side) {
            int sum = 0;
            for (int y = top; y < top + side; y++) {
                for (int x = left; x < left + side; x++) {
                    sum += pixel(x, y);
                }
            }
            return sum;
        }
    }

    /** The bytes of the file and, once it was looked through, what it says of its layers. */
    private static final class LayeredFile {
        private final int[] bytes = new int[MOST_FILE_BYTES];
        private final int[] starts = new int[MOST_LAYERS];
        private final int[] ends = new int[MOST_LAYERS];
        private int length = 0;
        private int wide = 1;
        private int high = 1;
        private int layerCount = 0;
        private int place = 0;

        boolean has(int k) {
            return k >= 0 && k < length;
        }

        int at(int k) {
            return has(k) ? bytes[k] : 0;
        }

        void change(int k, int b) {
            if (has(k)) {
                bytes[k] = b;
            }
        }

        void append(int b) {
            if (length < MOST_FILE_BYTES) {
                bytes[length] = b;
                length++;
            }
        }

        void keep(int n) {
            length = n;
        }

        /** Looks through the file: the place at which it fails, or NONE. */
        int failure() {
            place = 0;
            if (!passHead()) {
                return place;
            }
            for (int k = 0; k < layerCount; k++) {
                if (!passLayer(k)) {
                    return place;
                }
            }
            return has(place) ? place : NONE;
        }

        private boolean passHead() {
            boolean good = passByte(FIRST_SIGN, FIRST_SIGN) && passByte(SECOND_SIGN, SECOND_SIGN)
                && passByte(1, LARGEST_SIDE) && passByte(1, LARGEST_SIDE) && passByte(1, MOST_LAYERS);
            if (good) {
                wide = at(2);
                high = at(3);
                layerCount = at(4);
            }
            return good;
        }

        private boolean passByte(int least, int most) {
            if (!has(place) || at(place) < least || at(place) > most) {
                return false;
            }
            place++;
            return true;
        }

        private boolean passLayer(int k) {
            if (!passAllRemarks()) {
                return false;
            }
            starts[k] = place;
            for (int passed = 0; passed < MOST_FILE_BYTES && has(place); passed++) {
                boolean escape = at(place) == ESCAPE;
                place++;
                if (escape && passByte(LAYER_END, LAYER_END)) {
                    ends[k] = place - 2;
                    return true;
                }
                if (escape && !passByte(ESCAPED_BYTE, ESCAPED_BYTE)) {
                    return false;
                }
            }
            return false;
        }

        private boolean passAllRemarks() {
            for (int passed = 0; passed < MOST_FILE_BYTES && remarksAreNext(); passed++) {
                place += 2;
                if (!has(place)) {
                    return false;
                }
                int end = place + 1 + at(place);
                place = Math.min(end, length);
                if (place < end) {
                    return false;
                }
            }
            return true;
        }

        private boolean remarksAreNext() {
            return at(place) == ESCAPE && at(place + 1) == REMARKS;
        }
    }

    /** The number of many bits that decisions are put into or taken from. */
    private abstract static class CodeNumber {
        /** The decision, where the one in favour has the lower part of what is left or the upper one. */
        abstract int decision(int wanted, int favourite, boolean favouriteIsLower, int lowerSpan);

        abstract void grow(int amount);

        abstract void makeDouble();
    }

    /** A number that grows by decisions put; its digits are held one by one, so that carries can go far. */
    private static final class MadeNumber extends CodeNumber {
        private final int[] digits = new int[MOST_DIGITS];
        private int digitCount = SPAN_DIGITS;

        void begin() {
            digitCount = SPAN_DIGITS;
            Arrays.fill(digits, 0, SPAN_DIGITS, 0);
        }

        int decision(int wanted, int favourite, boolean favouriteIsLower, int lowerSpan) {
            return wanted;
        }

        void grow(int amount) {
            int carry = amount;
            for (int i = digitCount - 1; i >= 0 && carry > 0; i--) {
                int sum = digits[i] + carry;
                digits[i] = sum & 1;
                carry = sum >> 1;
            }
        }

        void makeDouble() {
            if (digitCount < MOST_DIGITS) {
                digits[digitCount] = 0;
                digitCount++;
            }
        }

        void appendTo(LayeredFile file) {
            int count = byteCount();
            for (int i = 0; i < count; i++) {
                int b = byteOfDigits(i);
                file.append(b);
                if (b == ESCAPE) {
                    file.append(ESCAPED_BYTE);
                }
            }
        }

        private int byteCount() {
            int last = digitCount - 1;
            while (last >= 0 && digits[last] == 0) {
                last--;
            }
            return (last + 8) / 8;
        }

        private int byteOfDigits(int index) {
            int b = 0;
            for (int i = 8 * index; i < 8 * index + 8; i++) {
                b = 2 * b + (i < digitCount ? digits[i] : 0);
            }
            return b;
        }
    }

    /** A number that stands in a file and from which decisions are taken. */
    private static final class TakenNumber extends CodeNumber {
        private final int[] bytes = new int[MOST_FILE_BYTES];
        private int byteCount = 0;
        private int nextDigit = 0;
        private int rest = 0;

        void begin(LayeredFile file, int layer) {
            int end = file.ends[layer];
            byteCount = 0;
            for (int place = file.starts[layer]; place < end && byteCount < MOST_FILE_BYTES; place++) {
                bytes[byteCount] = file.at(place);
                byteCount++;
                if (file.at(place) == ESCAPE) {
                    place++;
                }
            }
            nextDigit = 0;
            rest = 0;
            for (int i = 0; i < SPAN_DIGITS; i++) {
                makeDouble();
            }
        }

        int decision(int wanted, int favourite, boolean favouriteIsLower, int lowerSpan) {
            boolean lower = rest < lowerSpan;
            return lower == favouriteIsLower ? favourite : 1 - favourite;
        }

        void grow(int amount) {
            rest -= amount;
        }

        void makeDouble() {
            int index = nextDigit / 8;
            int b = index < byteCount ? bytes[index] : 0;
            rest = 2 * rest + ((b >> (7 - nextDigit % 8)) & 1);
            nextDigit++;
        }
    }

    /** Puts decisions into a number, or takes them from it, by contexts that adapt. */
    private static final class DecisionCoder {
        private final int[] states = new int[CONTEXTS];
        private final int[] favourites = new int[CONTEXTS];
        private int span = WHOLE_SPAN;
        private int decisions = 0;
        private int doublings = 0;

        void begin() {
            Arrays.fill(states, 0);
            Arrays.fill(favourites, 0);
            span = WHOLE_SPAN;
            decisions = 0;
            doublings = 0;
        }

        /** Codes the decision that is wanted, or the one that the number holds: that decision. */
        int decide(int context, int wanted, CodeNumber number) {
            int q = Q[states[context]];
            span -= q;
            boolean favouriteIsLower = span >= q;
            int b = number.decision(wanted, favourites[context], favouriteIsLower, span);
            boolean favoured = b == favourites[context];
            boolean adapts = !favoured || span < HALF_SPAN;
            if (favoured != favouriteIsLower) {
                number.grow(span);
                span = q;
            }
            if (adapts) {
                adapt(context, favoured);
            }
            widen(number);
            decisions++;
            return b;
        }

        private void adapt(int context, boolean favoured) {
            int state = states[context];
            if (favoured) {
                states[context] = Math.min(LAST_STATE, state + 1);
            } else if (state == 0) {
                favourites[context] = 1 - favourites[context];
            } else {
                states[context] = Math.max(0, state - 2);
            }
        }

        private void widen(CodeNumber number) {
            for (int i = 0; i < SPAN_DIGITS && span < HALF_SPAN; i++) {
                span *= 2;
                number.makeDouble();
                doublings++;
            }
        }
    }

    /**
     * The layers of a picture. Writing and reading go the same way through a layer: what a number
     * decides is painted, which changes nothing where the layer's own pixels are wanted.
     */
    private static final class LayerStack {
        private final Picture[] layers = {new Picture(), new Picture(), new Picture()};
        private final DecisionCoder coder = new DecisionCoder();
        private int plainRows = 0;

        /** The picture becomes the last of so many layers; each one below is the half of the next. */
        void split(Picture picture, int count) {
            layers[count - 1].become(picture);
            for (int k = count - 2; k >= 0; k--) {
                layers[k].becomeHalfOf(layers[k + 1]);
            }
        }

        /** So many layers without a pixel 1, the last one of this size. */
        void blank(int count, int wide, int high) {
            int w = wide;
            int h = high;
            for (int k = count - 1; k >= 0; k--) {
                layers[k].blank(w, h);
                w = halfSide(w);
                h = halfSide(h);
            }
        }

        void codeLayer(int k, CodeNumber number) {
            coder.begin();
            plainRows = 0;
            for (int y = 0; y < layers[k].high; y++) {
                int plain = coder.decide(PLAIN_CONTEXT + k, isPlain(k, y) ? 1 : 0, number);
                if (plain == 1) {
                    plainRows++;
                    paintPlain(k, y);
                } else {
                    codePixels(k, y, number);
                }
            }
        }

        private void codePixels(int k, int y, CodeNumber number) {
            Picture layer = layers[k];
            for (int x = 0; x < layer.wide; x++) {
                int context = k == 0 ? lowestContext(x, y) : upperContext(k, x, y);
                layer.paint(x, y, coder.decide(context, layer.pixel(x, y), number));
            }
        }

        private boolean isPlain(int k, int y) {
            for (int x = 0; x < layers[k].wide; x++) {
                if (layers[k].pixel(x, y) != plainPixel(k, x, y)) {
                    return false;
                }
            }
            return true;
        }

        private void paintPlain(int k, int y) {
            for (int x = 0; x < layers[k].wide; x++) {
                layers[k].paint(x, y, plainPixel(k, x, y));
            }
        }

        private int plainPixel(int k, int x, int y) {
            return k == 0 ? layers[0].pixel(x, y - 1) : layers[k - 1].pixel(x / 2, y / 2);
        }

        private int lowestContext(int x, int y) {
            Picture layer = layers[0];
            int bits = 0;
            for (int i = x - 4; i < x; i++) {
                bits = 2 * bits + layer.pixel(i, y);
            }
            for (int i = x - 2; i <= x + 2; i++) {
                bits = 2 * bits + layer.pixel(i, y - 1);
            }
            return 2 * bits + layer.pixel(x, y - 2);
        }

        private int upperContext(int k, int x, int y) {
            Picture layer = layers[k];
            Picture below = layers[k - 1];
            int u = x / 2;
            int v = y / 2;
            int bits = 2 * (x % 2) + y % 2;
            bits = 2 * bits + below.pixel(u, v);
            bits = 2 * bits + below.pixel(x % 2 == 0 ? u - 1 : u + 1, v);
            bits = 2 * bits + below.pixel(u, y % 2 == 0 ? v - 1 : v + 1);
            bits = 2 * bits + layer.pixel(x - 1, y);
            for (int i = x - 1; i <= x + 1; i++) {
                bits = 2 * bits + layer.pixel(i, y - 1);
            }
            return LAYER_CONTEXTS * k + LAYER_CONTEXTS + bits;
        }
    }
}
