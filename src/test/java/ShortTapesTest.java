/**
 * Every short tape over bytes that matter, defined, read as a value, and standing as it is in a text that is put in; all
 * answers held against the model. What ModelTest only draws is here without a gap.
 */
public final class ShortTapesTest {
    /** Entity a has a text, z none; the last two bytes are no characters. */
    private static final String MANY = "&#xXaz;16<\n \1\177";
    private static final String FEW = "&#x;a6";

    private static int tapes;

    public static void main(String[] args) {
        for (int length = 0; length <= 4; length++) {
            every("", length, MANY);
        }
        for (int length = 5; length <= 6; length++) {
            every("", length, FEW);
        }
        // The digits' number and what stands behind them, deeper than all bytes could be tried.
        for (int digits = 4; digits <= 8; digits++) {
            every("&#" + "0".repeat(digits - 2), 3, "6a;&<");
            every("&#x" + "0".repeat(digits - 2), 3, "6aAgG;&<");
        }
        Check.due("tapes tried", tapes, 1 + 14 + 196 + 2744 + 38416 + 7776 + 46656 + 5 * (125 + 512));
        Check.end();
    }

    private static void every(String begun, int more, String bytes) {
        if (more == 0) {
            tapes++;
            defined(begun);
            read(begun);
            if (!begun.contains("\1") && !begun.contains("\177")) {
                standingInAText(begun);
            }
            return;
        }
        for (char each : bytes.toCharArray()) {
            every(begun + each, more - 1, bytes);
        }
    }

    private static void defined(String tape) {
        Twins twins = new Twins("define of [" + tape + "]");
        twins.define('a', "[\n]");
        twins.define('b', tape);
        twins.told();
        twins.define('a', tape);
        twins.told();
    }

    private static void read(String tape) {
        Twins twins = new Twins("value of [" + tape + "]");
        twins.define('a', "[\n]");
        twins.value(tape, 0, 5);
        twins.told();
        twins.value(tape, 1, 5);
        twins.told();
    }

    /** An & comes into a text as it is by the reference &#38; alone. */
    private static void standingInAText(String text) {
        Twins twins = new Twins("value with the text [" + text + "]");
        twins.define('a', "[\n]");
        twins.define('b', text.replace("&", "&#38;"));
        twins.define('c', "x&b;&b;");
        twins.value(" &b;;", 0, 12);
        twins.told();
        twins.value("p&c; ", 1, 30);
        twins.told();
    }

    /** A desk and the model of one, which are asked the same. */
    private static final class Twins {
        private final ValueDesk desk = new ValueDesk();
        private final Model model = new Model();
        private final String name;

        Twins(String name) {
            this.name = name;
        }

        private void put(String bytes) {
            for (char each : bytes.toCharArray()) {
                due("put", desk.put(each, 1) ? 1 : 0, model.put(each, 1) ? 1 : 0);
            }
        }

        void define(char entity, String bytes) {
            put(bytes);
            due("define", desk.define(entity - 'a'), model.define(entity - 'a'));
        }

        void value(String bytes, int mode, int limit) {
            put(bytes);
            due("value", desk.value(mode, limit), model.value(mode, limit));
        }

        void told() {
            due("place", desk.place(), model.place());
            for (int what = 0; what <= 4; what++) {
                due("count", desk.count(what), model.count(what));
            }
            for (int k = 0; k <= 8; k += 8) {
                due("characters", desk.characters(k), model.characters(k));
                due("text", desk.text(0, k), model.text(0, k));
                due("text", desk.text(1, k), model.text(1, k));
            }
        }

        private void due(String call, long got, long want) {
            if (got != want) {
                Check.due(call + ", " + name, got, want);
            }
        }
    }
}
