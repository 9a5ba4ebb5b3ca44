/** Promise 2. */
public final class PutTest {
    public static void main(String[] args) {
        orderOfBytes();
        wrongNumbers();
        fullTape();
        Check.end();
    }

    private static void orderOfBytes() {
        ValueDesk desk = new ValueDesk();
        Check.yes("put(.., 8)", desk.put(0x4142434445464748L, 8));
        Check.yes("put(.., 3)", desk.put(0x7F7F7F7F7F616263L, 3));
        Check.yes("put(.., 1)", desk.put(-256L + 'z', 1));
        Check.due("count(0)", desk.count(0), 12);
        Check.due("value(0, 0)", desk.value(0, 0), 12);
        Check.due("the value", Check.lastValue(desk), "ABCDEFGHabcz");
        for (int n = 1; n <= 8; n++) {
            Check.yes("put(.., " + n + ")", desk.put(0x4142434445464748L, n));
            Check.due("count(0)", desk.count(0), n);
            desk.value(0, 0);
            Check.due("the value", Check.lastValue(desk), "ABCDEFGH".substring(8 - n));
        }
    }

    private static void wrongNumbers() {
        ValueDesk desk = new ValueDesk();
        Check.put(desk, "ab");
        int[] wrong = {0, 9, -1, 10, 16, 64, Integer.MIN_VALUE, Integer.MAX_VALUE};
        for (int n : wrong) {
            Check.no("put(65, " + n + ")", desk.put(65, n));
            Check.due("count(0)", desk.count(0), 2);
        }
        Check.due("value(0, 0)", desk.value(0, 0), 2);
    }

    private static void fullTape() {
        ValueDesk desk = new ValueDesk();
        Check.put(desk, "x".repeat(196));
        Check.no("put of 5 behind 196", desk.put(0x4142434445L, 5));
        Check.no("put of 8 behind 196", desk.put(0x4142434445L, 8));
        Check.due("count(0)", desk.count(0), 196);
        Check.yes("put of 4 behind 196", desk.put(0x41424344L, 4));
        Check.due("count(0)", desk.count(0), 200);
        Check.no("put of 1 behind 200", desk.put(65, 1));
        Check.due("value(0, 0)", desk.value(0, 0), 200);
        Check.due("the value", Check.lastValue(desk), "x".repeat(196) + "ABCD");
        Check.yes("put behind value", desk.put(65, 1));
    }
}
