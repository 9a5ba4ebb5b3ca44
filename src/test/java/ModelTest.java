import java.util.Random;

/** Runs of calls drawn with fixed seeds, every answer held against the model. */
public final class ModelTest {
    private static final int RUNS = 12000;
    /** The document promises no more calls of one object. */
    private static final int CALLS = 512;

    private final Random draw;
    private final ValueDesk desk = new ValueDesk();
    private final Model model = new Model();
    private final int letters;
    private final int seed;
    private int calls;
    private static final int[] MET = new int[11];

    private ModelTest(int seed) {
        this.seed = seed;
        draw = new Random(seed);
        letters = 1 + draw.nextInt(seed % 3 == 0 ? 26 : 8);
    }

    public static void main(String[] args) {
        for (int seed = 1; seed <= RUNS; seed++) {
            ModelTest test = new ModelTest(seed);
            while (test.calls < CALLS / 2) {
                test.oneCall();
                test.someOfWhatIsTold();
            }
            test.allThatIsTold();
            Check.yes("seed " + seed + " keeps within its calls: " + test.calls, test.calls <= CALLS);
        }
        // A drawing that meets a fault seldom would prove little about it.
        for (int kind = 1; kind < MET.length; kind++) {
            Check.yes("answer -" + kind + " is met often enough: " + MET[kind], MET[kind] > 100);
        }
        Check.end();
    }

    private void due(String call, long got, long want) {
        calls++;
        Check.due("seed " + seed + ": " + call, got, want);
    }

    private void oneCall() {
        int which = draw.nextInt(40);
        if (which < 22) {
            putPiece();
        } else if (which < 28) {
            int k = draw.nextInt(30) == 0 ? odd() : draw.nextInt(letters);
            due("define(" + k + ")", met(desk.define(k)), model.define(k));
        } else if (which < 34) {
            int mode = draw.nextInt(30) == 0 ? odd() : draw.nextInt(2);
            int[] limits = {100000, draw.nextInt(1000), draw.nextInt(60), odd()};
            int limit = limits[draw.nextInt(30) == 0 ? 3 : draw.nextInt(3)];
            due("value(" + mode + ", " + limit + ")", met(desk.value(mode, limit)), model.value(mode, limit));
        } else if (which < 39) {
            int k = draw.nextInt(10) == 0 ? odd() : draw.nextInt(310);
            int e = draw.nextInt(10) == 0 ? odd() : draw.nextInt(letters);
            due("characters(" + k + ")", desk.characters(k), model.characters(k));
            due("text(" + e + ", " + k + ")", desk.text(e, k), model.text(e, k));
        } else if (draw.nextInt(4) == 0) {
            due("clear()", desk.clear(), model.clear());
        }
    }

    private static int met(int answer) {
        if (answer < 0 && answer > -MET.length) {
            MET[-answer]++;
        }
        return answer;
    }

    private void someOfWhatIsTold() {
        due("place()", desk.place(), model.place());
        int what = draw.nextInt(7) - 1;
        due("count(" + what + ")", desk.count(what), model.count(what));
    }

    private void allThatIsTold() {
        due("place()", desk.place(), model.place());
        for (int what = -1; what <= 5; what++) {
            due("count(" + what + ")", desk.count(what), model.count(what));
        }
        for (int k = 0; k <= model.count(2); k += 8) {
            due("characters(" + k + ")", desk.characters(k), model.characters(k));
        }
        for (int e = 0; e < letters; e++) {
            for (int k = 0; k < 48; k += 8) {
                due("text(" + e + ", " + k + ")", desk.text(e, k), model.text(e, k));
            }
        }
    }

    private int odd() {
        int[] odds = {-1, 2, 26, 27, -8, 100000, 100001, 101, Integer.MIN_VALUE, Integer.MAX_VALUE, Integer.MAX_VALUE - 3};
        return odds[draw.nextInt(odds.length)];
    }

    private void putPiece() {
        String piece = piece();
        int times = draw.nextInt(4) == 0 ? 1 + draw.nextInt(30) : 1;
        String bytes = piece.repeat(times);
        for (int from = 0; from < bytes.length(); from += 8) {
            int n = Math.min(8, bytes.length() - from);
            long v = draw.nextLong();
            for (int i = 0; i < n; i++) {
                v = v << 8 | bytes.charAt(from + i);
            }
            int told = draw.nextInt(200) == 0 ? odd() : n;
            due("put(" + v + ", " + told + ")", desk.put(v, told) ? 1 : 0, model.put(v, told) ? 1 : 0);
        }
    }

    private String piece() {
        int kind = draw.nextInt(200);
        char letter = (char) ('a' + draw.nextInt(letters));
        if (kind < 80) {
            return "&" + letter + ";";
        }
        if (kind < 110) {
            return "&#" + (draw.nextInt(12) == 0 ? draw.nextInt(200) : 32 + draw.nextInt(95)) + ";";
        }
        if (kind < 125) {
            return "&#x" + Integer.toHexString(32 + draw.nextInt(95)) + ";";
        }
        if (kind < 145) {
            String[] some = {"&#38;", "&#38;#60;", "&#38;#10;", "&#60;", "&#10;", "&#38;" + letter + ";", "&#38;#1;"};
            return some[draw.nextInt(some.length)];
        }
        if (kind < 147) {
            String[] broken = {"&", "&#", "&#x", "&#0000065;", "&#X41;", "&A;", "&#x;", "<", "\1", "\177", "\377"};
            return broken[draw.nextInt(broken.length)];
        }
        if (kind < 165) {
            return new String[] {" ", "\t", "\n", "\r", "  "}[draw.nextInt(5)];
        }
        return "" + (char) (kind < 175 ? '0' + draw.nextInt(10) : 'A' + draw.nextInt(26));
    }
}
