import java.util.ArrayList;
import java.util.List;
import java.util.Random;
import java.util.regex.Matcher;
import java.util.regex.Pattern;

/**
 * Runs of calls drawn with fixed seeds, every answer held against a model that is written in another
 * way: on Strings, with patterns, and with an exception for a fault.
 */
public final class ModelTest {
    private static final int RUNS = 12000;
    /** The document promises no more calls of one object. */
    private static final int CALLS = 512;

    private static final class Fault extends Exception {
        private static final long serialVersionUID = 1L;
        final int kind;
        final int place;

        Fault(int kind, int place) {
            super("fault", null, false, false);
            this.kind = kind;
            this.place = place;
        }
    }

    private static final class Model {
        private static final Pattern REFERENCE = Pattern.compile("&(?:([a-z])|#([0-9]{1,6})|#x([0-9a-fA-F]{1,6}));");
        private static final Pattern BEGINNING =
            Pattern.compile("&(?:[a-z];?|#(?:[0-9]{1,6};?|x(?:[0-9a-fA-F]{1,6};?)?)?)?");
        private final String[] texts = new String[26];
        private String tape = "";
        private String last = "";
        private int place = -1;
        private int meter;
        private int deepest;

        boolean put(long v, int n) {
            if (n < 1 || n > 8 || tape.length() + n > 200) {
                return false;
            }
            String all = "";
            for (int i = 0; i < 8; i++) {
                all = (char) (v >> 8 * i & 255) + all;
            }
            tape += all.substring(8 - n);
            return true;
        }

        int define(int k) {
            if (k < 0 || k > 25) {
                return -10;
            }
            String read = tape;
            tape = "";
            place = -1;
            try {
                String text = drafted(read);
                if (texts[k] != null) {
                    return -9;
                }
                texts[k] = text;
                return text.length();
            } catch (Fault fault) {
                place = fault.place;
                return -fault.kind;
            }
        }

        private static String drafted(String read) throws Fault {
            String text = "";
            for (int at = 0; at < read.length();) {
                String piece = pieceAt(read, at, false);
                String gives = piece.matches("&#.*") ? byNumber(piece, at) : piece;
                if (text.length() + gives.length() > 100) {
                    throw new Fault(8, at);
                }
                text += gives;
                at += piece.length();
            }
            return text;
        }

        int value(int mode, int limit) {
            if (mode != 0 && mode != 1 || limit < 0 || limit > 100000) {
                return -10;
            }
            String read = tape;
            tape = "";
            last = "";
            place = -1;
            meter = 0;
            deepest = 0;
            StringBuilder into = new StringBuilder();
            try {
                expand(read, into, limit, new ArrayList<>());
            } catch (Fault fault) {
                place = fault.place;
                return -fault.kind;
            }
            last = mode == 0 ? into.toString() : into.toString().replaceAll(" +", " ").replaceAll("\\A | \\z", "");
            return last.length();
        }

        private void expand(String read, StringBuilder into, int limit, List<Integer> open) throws Fault {
            for (int at = 0; at < read.length();) {
                String piece = pieceAt(read, at, !open.isEmpty());
                if (piece.length() == 3 && piece.charAt(0) == '&') {
                    putIn(piece.charAt(1) - 'a', at, into, limit, open);
                } else if (piece.equals("<")) {
                    throw new Fault(4, at);
                } else {
                    String gives = piece.length() > 1 ? byNumber(piece, at) : piece.replaceAll("[\t\n\r]", " ");
                    if (into.length() == 300) {
                        throw new Fault(8, at);
                    }
                    into.append(gives);
                }
                at += piece.length();
            }
        }

        private void putIn(int k, int at, StringBuilder into, int limit, List<Integer> open) throws Fault {
            if (texts[k] == null) {
                throw new Fault(2, at);
            }
            if (open.contains(k)) {
                throw new Fault(3, at);
            }
            if (meter + texts[k].length() > limit) {
                throw new Fault(6, at);
            }
            meter += texts[k].length();
            open.add(k);
            deepest = Math.max(deepest, open.size());
            try {
                expand(texts[k], into, limit, open);
            } catch (Fault fault) {
                throw new Fault(fault.kind, at);
            } finally {
                open.remove(open.size() - 1);
            }
        }

        /** The byte or the whole reference that stands there. */
        private static String pieceAt(String read, int at, boolean inText) throws Fault {
            if (read.charAt(at) != '&') {
                String one = read.substring(at, at + 1);
                if (!one.matches("[\t\n\r -~]")) {
                    throw new Fault(1, at);
                }
                return one;
            }
            Matcher whole = REFERENCE.matcher(read).region(at, read.length());
            if (whole.lookingAt()) {
                return whole.group();
            }
            Matcher begun = BEGINNING.matcher(read).region(at, read.length());
            begun.lookingAt();
            throw new Fault(inText && begun.end() == read.length() ? 7 : 1, begun.end());
        }

        private static String byNumber(String piece, int at) throws Fault {
            String digits = piece.replaceAll("[&#x;]", "");
            int number = Integer.parseInt(digits, piece.contains("x") ? 16 : 10);
            String gives = "" + (char) number;
            if (number > 126 || !gives.matches("[\t\n\r -~]")) {
                throw new Fault(5, at);
            }
            return gives;
        }

        long eightOf(String of, int k) {
            if (of == null || k < 0) {
                return -1;
            }
            String eight = ((k < of.length() ? of.substring(k) : "") + "\0\0\0\0\0\0\0\0").substring(0, 8);
            long word = 0;
            for (char c : eight.toCharArray()) {
                word = word * 256 + c;
            }
            return word;
        }

        long text(int e, int k) {
            return eightOf(e < 0 || e > 25 ? null : texts[e], k);
        }

        int clear() {
            int had = count(1);
            java.util.Arrays.fill(texts, null);
            return had;
        }

        int count(int what) {
            int known = 0;
            for (String each : texts) {
                known += each == null ? 0 : 1;
            }
            int[] all = {tape.length(), known, last.length(), meter, deepest};
            return what < 0 || what > 4 ? -1 : all[what];
        }
    }

    private final Random draw;
    private final ValueDesk desk = new ValueDesk();
    private final Model model = new Model();
    private final int letters;
    private final int seed;
    private int calls;
    private static final int[] MET = new int[11];

    private ModelTest(int seed) {
        this.seed = seed;
        draw = new Random(seed);
        letters = 1 + draw.nextInt(seed % 3 == 0 ? 26 : 8);
    }

    public static void main(String[] args) {
        for (int seed = 1; seed <= RUNS; seed++) {
            ModelTest test = new ModelTest(seed);
            while (test.calls < CALLS / 2) {
                test.oneCall();
                test.someOfWhatIsTold();
            }
            test.allThatIsTold();
            Check.yes("seed " + seed + " keeps within its calls: " + test.calls, test.calls <= CALLS);
        }
        // A drawing that meets a fault seldom would prove little about it.
        for (int kind = 1; kind < MET.length; kind++) {
            Check.yes("answer -" + kind + " is met often enough: " + MET[kind], MET[kind] > 100);
        }
        Check.end();
    }

    private void due(String call, long got, long want) {
        calls++;
        Check.due("seed " + seed + ": " + call, got, want);
    }

    private void oneCall() {
        int which = draw.nextInt(40);
        if (which < 22) {
            putPiece();
        } else if (which < 28) {
            int k = draw.nextInt(30) == 0 ? odd() : draw.nextInt(letters);
            due("define(" + k + ")", met(desk.define(k)), model.define(k));
        } else if (which < 34) {
            int mode = draw.nextInt(30) == 0 ? odd() : draw.nextInt(2);
            int[] limits = {100000, draw.nextInt(1000), draw.nextInt(60), odd()};
            int limit = limits[draw.nextInt(30) == 0 ? 3 : draw.nextInt(3)];
            due("value(" + mode + ", " + limit + ")", met(desk.value(mode, limit)), model.value(mode, limit));
        } else if (which < 39) {
            int k = draw.nextInt(10) == 0 ? odd() : draw.nextInt(310);
            int e = draw.nextInt(10) == 0 ? odd() : draw.nextInt(letters);
            due("characters(" + k + ")", desk.characters(k), model.eightOf(model.last, k));
            due("text(" + e + ", " + k + ")", desk.text(e, k), model.text(e, k));
        } else if (draw.nextInt(4) == 0) {
            due("clear()", desk.clear(), model.clear());
        }
    }

    private static int met(int answer) {
        if (answer < 0 && answer > -MET.length) {
            MET[-answer]++;
        }
        return answer;
    }

    private void someOfWhatIsTold() {
        due("place()", desk.place(), model.place);
        int what = draw.nextInt(7) - 1;
        due("count(" + what + ")", desk.count(what), model.count(what));
    }

    private void allThatIsTold() {
        due("place()", desk.place(), model.place);
        for (int what = -1; what <= 5; what++) {
            due("count(" + what + ")", desk.count(what), model.count(what));
        }
        for (int k = 0; k <= model.last.length(); k += 8) {
            due("characters(" + k + ")", desk.characters(k), model.eightOf(model.last, k));
        }
        for (int e = 0; e < letters; e++) {
            for (int k = 0; k < 48; k += 8) {
                due("text(" + e + ", " + k + ")", desk.text(e, k), model.text(e, k));
            }
        }
    }

    private int odd() {
        int[] odds = {-1, 2, 26, 27, -8, 100000, 100001, 101, Integer.MIN_VALUE, Integer.MAX_VALUE, Integer.MAX_VALUE - 3};
        return odds[draw.nextInt(odds.length)];
    }

    private void putPiece() {
        String piece = piece();
        int times = draw.nextInt(4) == 0 ? 1 + draw.nextInt(30) : 1;
        String bytes = piece.repeat(times);
        for (int from = 0; from < bytes.length(); from += 8) {
            int n = Math.min(8, bytes.length() - from);
            long v = draw.nextLong();
            for (int i = 0; i < n; i++) {
                v = v << 8 | bytes.charAt(from + i);
            }
            int told = draw.nextInt(200) == 0 ? odd() : n;
            due("put(" + v + ", " + told + ")", desk.put(v, told) ? 1 : 0, model.put(v, told) ? 1 : 0);
        }
    }

    private String piece() {
        int kind = draw.nextInt(200);
        char letter = (char) ('a' + draw.nextInt(letters));
        if (kind < 80) {
            return "&" + letter + ";";
        }
        if (kind < 110) {
            return "&#" + (draw.nextInt(12) == 0 ? draw.nextInt(200) : 32 + draw.nextInt(95)) + ";";
        }
        if (kind < 125) {
            return "&#x" + Integer.toHexString(32 + draw.nextInt(95)) + ";";
        }
        if (kind < 145) {
            String[] some = {"&#38;", "&#38;#60;", "&#38;#10;", "&#60;", "&#10;", "&#38;" + letter + ";", "&#38;#1;"};
            return some[draw.nextInt(some.length)];
        }
        if (kind < 147) {
            String[] broken = {"&", "&#", "&#x", "&#0000065;", "&#X41;", "&A;", "&#x;", "<", "\1", "\177", "\377"};
            return broken[draw.nextInt(broken.length)];
        }
        if (kind < 165) {
            return new String[] {" ", "\t", "\n", "\r", "  "}[draw.nextInt(5)];
        }
        return "" + (char) (kind < 175 ? '0' + draw.nextInt(10) : 'A' + draw.nextInt(26));
    }
}
