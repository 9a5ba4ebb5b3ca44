/** All that the calls that only tell say of a desk, in fewer than 450 calls, so that 512 suffice with those before. */
final class Told {
    private Told() {
    }

    static String of(ValueDesk desk) {
        StringBuilder told = new StringBuilder();
        told.append("place ").append(desk.place());
        for (int what = 0; what <= 4; what++) {
            told.append(", count(").append(what).append(") ").append(desk.count(what));
        }
        for (int k = 0; k <= 304; k += 8) {
            append(told, ", characters(" + k + ") ", desk.characters(k), 0);
        }
        for (int e = 0; e < 26; e++) {
            for (int k = 0; k <= 104; k += 8) {
                append(told, ", text(" + e + ", " + k + ") ", desk.text(e, k), -1);
            }
        }
        return told.toString();
    }

    /** What is as on a new object is left out, to keep the print of a difference short. */
    private static void append(StringBuilder told, String call, long answer, long usual) {
        if (answer != usual) {
            told.append(call).append(Long.toHexString(answer));
        }
    }
}
