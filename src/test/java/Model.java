import java.util.ArrayList;
import java.util.List;
import java.util.regex.Matcher;
import java.util.regex.Pattern;

/**
 * The document once more, written in another way than the program: on Strings, with patterns, and with an exception for
 * a fault. Tests hold the program's answers against it.
 */
final class Model {
    private static final class Fault extends Exception {
        private static final long serialVersionUID = 1L;
        final int kind;
        final int place;

        Fault(int kind, int place) {
            super("fault", null, false, false);
            this.kind = kind;
            this.place = place;
        }
    }

    private static final Pattern REFERENCE = Pattern.compile("&(?:([a-z])|#([0-9]{1,6})|#x([0-9a-fA-F]{1,6}));");
    private static final Pattern BEGINNING =
        Pattern.compile("&(?:[a-z];?|#(?:[0-9]{1,6};?|x(?:[0-9a-fA-F]{1,6};?)?)?)?");
    private final String[] texts = new String[26];
    private String tape = "";
    private String last = "";
    private int place = -1;
    private int meter;
    private int deepest;

    boolean put(long v, int n) {
        if (n < 1 || n > 8 || tape.length() + n > 200) {
            return false;
        }
        String all = "";
        for (int i = 0; i < 8; i++) {
            all = (char) (v >> 8 * i & 255) + all;
        }
        tape += all.substring(8 - n);
        return true;
    }

    int define(int k) {
        if (k < 0 || k > 25) {
            return -10;
        }
        String read = tape;
        tape = "";
        place = -1;
        try {
            String text = drafted(read);
            if (texts[k] != null) {
                return -9;
            }
            texts[k] = text;
            return text.length();
        } catch (Fault fault) {
            place = fault.place;
            return -fault.kind;
        }
    }

    private static String drafted(String read) throws Fault {
        String text = "";
        for (int at = 0; at < read.length();) {
            String piece = pieceAt(read, at, false);
            String gives = piece.matches("&#.*") ? byNumber(piece, at) : piece;
            if (text.length() + gives.length() > 100) {
                throw new Fault(8, at);
            }
            text += gives;
            at += piece.length();
        }
        return text;
    }

    int value(int mode, int limit) {
        if (mode != 0 && mode != 1 || limit < 0 || limit > 100000) {
            return -10;
        }
        String read = tape;
        tape = "";
        last = "";
        place = -1;
        meter = 0;
        deepest = 0;
        StringBuilder into = new StringBuilder();
        try {
            expand(read, into, limit, new ArrayList<>());
        } catch (Fault fault) {
            place = fault.place;
            return -fault.kind;
        }
        last = mode == 0 ? into.toString() : into.toString().replaceAll(" +", " ").replaceAll("\\A | \\z", "");
        return last.length();
    }

    private void expand(String read, StringBuilder into, int limit, List<Integer> open) throws Fault {
        for (int at = 0; at < read.length();) {
            String piece = pieceAt(read, at, !open.isEmpty());
            if (piece.length() == 3 && piece.charAt(0) == '&') {
                putIn(piece.charAt(1) - 'a', at, into, limit, open);
            } else if (piece.equals("<")) {
                throw new Fault(4, at);
            } else {
                String gives = piece.length() > 1 ? byNumber(piece, at) : piece.replaceAll("[\t\n\r]", " ");
                if (into.length() == 300) {
                    throw new Fault(8, at);
                }
                into.append(gives);
            }
            at += piece.length();
        }
    }

    private void putIn(int k, int at, StringBuilder into, int limit, List<Integer> open) throws Fault {
        if (texts[k] == null) {
            throw new Fault(2, at);
        }
        if (open.contains(k)) {
            throw new Fault(3, at);
        }
        if (meter + texts[k].length() > limit) {
            throw new Fault(6, at);
        }
        meter += texts[k].length();
        open.add(k);
        deepest = Math.max(deepest, open.size());
        try {
            expand(texts[k], into, limit, open);
        } catch (Fault fault) {
            throw new Fault(fault.kind, at);
        } finally {
            open.remove(open.size() - 1);
        }
    }

    /** The byte or the whole reference that stands there. */
    private static String pieceAt(String read, int at, boolean inText) throws Fault {
        if (read.charAt(at) != '&') {
            String one = read.substring(at, at + 1);
            if (!one.matches("[\t\n\r -~]")) {
                throw new Fault(1, at);
            }
            return one;
        }
        Matcher whole = REFERENCE.matcher(read).region(at, read.length());
        if (whole.lookingAt()) {
            return whole.group();
        }
        Matcher begun = BEGINNING.matcher(read).region(at, read.length());
        begun.lookingAt();
        throw new Fault(inText && begun.end() == read.length() ? 7 : 1, begun.end());
    }

    private static String byNumber(String piece, int at) throws Fault {
        String digits = piece.replaceAll("[&#x;]", "");
        int number = Integer.parseInt(digits, piece.contains("x") ? 16 : 10);
        String gives = "" + (char) number;
        if (number > 126 || !gives.matches("[\t\n\r -~]")) {
            throw new Fault(5, at);
        }
        return gives;
    }

    int place() {
        return place;
    }

    long characters(int k) {
        return eightOf(last, k);
    }

    private static long eightOf(String of, int k) {
        if (of == null || k < 0) {
            return -1;
        }
        String eight = ((k < of.length() ? of.substring(k) : "") + "\0\0\0\0\0\0\0\0").substring(0, 8);
        long word = 0;
        for (char c : eight.toCharArray()) {
            word = word * 256 + c;
        }
        return word;
    }

    long text(int e, int k) {
        return eightOf(e < 0 || e > 25 ? null : texts[e], k);
    }

    int clear() {
        int had = count(1);
        java.util.Arrays.fill(texts, null);
        return had;
    }

    int count(int what) {
        int known = 0;
        for (String each : texts) {
            known += each == null ? 0 : 1;
        }
        int[] all = {tape.length(), known, last.length(), meter, deepest};
        return what < 0 || what > 4 ? -1 : all[what];
    }
}
