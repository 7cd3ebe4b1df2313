/** Makes objects for tests, and shows as texts what they hold. */
final class Make {
    private Make() {
    }

    static LayeredBits sized(int width, int height) {
        LayeredBits bits = new LayeredBits();
        bits.clear(width, height);
        return bits;
    }

    /** Rows are written as texts of 0 and 1. */
    static LayeredBits drawn(String... rows) {
        LayeredBits bits = sized(rows[0].length(), rows.length);
        for (int y = 0; y < rows.length; y++) {
            bits.row(y, Integer.parseInt(rows[y], 2));
        }
        return bits;
    }

    static LayeredBits ones(int width, int height) {
        LayeredBits bits = sized(width, height);
        for (int y = 0; y < height; y++) {
            bits.row(y, -1);
        }
        return bits;
    }

    static LayeredBits filed(int... bytes) {
        LayeredBits bits = new LayeredBits();
        for (int b : bytes) {
            bits.type(b, 1);
        }
        return bits;
    }

    static Model modelOf(LayeredBits bits) {
        Model model = new Model();
        model.clear(bits.width(), bits.height());
        for (int y = 0; y < bits.height(); y++) {
            for (int x = 0; x < bits.width(); x++) {
                model.set(x, y, bits.get(x, y));
            }
        }
        for (int k = 0; k < bits.size(); k++) {
            model.type(bits.byteAt(k), 1);
        }
        return model;
    }

    static String picture(LayeredBits bits) {
        StringBuilder text = new StringBuilder();
        for (int y = 0; y < bits.height(); y++) {
            for (int x = 0; x < bits.width(); x++) {
                text.append(bits.get(x, y));
            }
            text.append(y + 1 < bits.height() ? "/" : "");
        }
        return text.toString();
    }

    static String picture(Model model) {
        StringBuilder text = new StringBuilder();
        for (int[] row : model.picture) {
            text.append(text.length() == 0 ? "" : "/");
            for (int b : row) {
                text.append(b);
            }
        }
        return text.toString();
    }

    static String size(LayeredBits bits) {
        return bits.width() + " by " + bits.height();
    }

    static String file(LayeredBits bits) {
        StringBuilder text = new StringBuilder();
        for (int k = 0; k < bits.size(); k++) {
            text.append(k == 0 ? "" : " ").append(bits.byteAt(k));
        }
        return text.toString();
    }

    static String file(Model model) {
        StringBuilder text = new StringBuilder();
        for (int b : model.file) {
            text.append(text.length() == 0 ? "" : " ").append(b);
        }
        return text.toString();
    }

    /** Decisions, plain rows and doublings. */
    static String told(LayeredBits bits) {
        return bits.told(0) + " " + bits.told(1) + " " + bits.told(2);
    }

    static String told(Model model) {
        return model.told(0) + " " + model.told(1) + " " + model.told(2);
    }

    /** All that can be seen of an object. */
    static String everything(LayeredBits bits) {
        String told = Check.outcome(() -> bits.told(0)) + " " + Check.outcome(() -> bits.told(1)) + " "
            + Check.outcome(() -> bits.told(2));
        return size(bits) + ": " + picture(bits) + "; file: " + file(bits) + "; told: " + told;
    }
}
