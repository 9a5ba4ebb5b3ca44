/** Promise 2, sentence by sentence, at each boundary that it names, one below and one above. */
public final class PutBoundsTest {
    private static final long V = 0x4142434445464748L;

    public static void main(String[] args) {
        theLowestBytesTheHighestFirst();
        whatIsAboveThemIsLeft();
        falseIfNIsNotOneToEight();
        falseIfThereWouldBeMoreThanTwoHundred();
        aFullTapeIsReadWhole();
        anEmptiedTapeTakesTwoHundredAgain();
        anyByteIsTaken();
        Check.end();
    }

    /** "The lowest n bytes of v, the highest of them first, come behind the tape: true" */
    private static void theLowestBytesTheHighestFirst() {
        for (int n = 1; n <= 8; n++) {
            ValueDesk desk = new ValueDesk();
            Check.yes("put('x', 1)", desk.put('x', 1));
            Check.yes("put(V, " + n + ")", desk.put(V, n));
            Check.due("count(0)", desk.count(0), n + 1);
            Check.due("value(0, 0)", desk.value(0, 0), n + 1);
            Check.due("the value", Check.lastValue(desk), "x" + "ABCDEFGH".substring(8 - n));
        }
    }

    private static void whatIsAboveThemIsLeft() {
        for (int n = 1; n <= 7; n++) {
            ValueDesk desk = new ValueDesk();
            long above = -1L << 8 * n;
            Check.yes("put with bits above, " + n, desk.put(above | V & ~above, n));
            Check.due("value(0, 0)", desk.value(0, 0), n);
            Check.due("the value", Check.lastValue(desk), "ABCDEFGH".substring(8 - n));
        }
    }

    /** "false if n is not 1 .. 8" */
    private static void falseIfNIsNotOneToEight() {
        int[] tried = {-1, 0, 1, 2, 7, 8, 9};
        for (int n : tried) {
            ValueDesk desk = new ValueDesk();
            boolean due = n >= 1 && n <= 8;
            Check.due("put(V, " + n + ")", desk.put(V, n) ? 1 : 0, due ? 1 : 0);
            Check.due("count(0) behind put(V, " + n + ")", desk.count(0), due ? n : 0);
        }
    }

    /** "false if [..] there would be more than 200" */
    private static void falseIfThereWouldBeMoreThanTwoHundred() {
        for (int n = 1; n <= 8; n++) {
            for (int before = 190; before <= 200; before++) {
                ValueDesk desk = new ValueDesk();
                Check.put(desk, "x".repeat(before));
                boolean due = before + n <= 200;
                Check.due("put(V, " + n + ") behind " + before, desk.put(V, n) ? 1 : 0, due ? 1 : 0);
                Check.due("count(0)", desk.count(0), due ? before + n : before);
            }
        }
    }

    private static void aFullTapeIsReadWhole() {
        ValueDesk desk = new ValueDesk();
        Check.put(desk, "a" + "x".repeat(192) + "bcdefg");
        Check.no("put of 2 behind 199", desk.put(V, 2));
        Check.yes("put of 1 behind 199", desk.put('z', 1));
        Check.no("put of 1 behind 200", desk.put('y', 1));
        Check.due("value(0, 0)", desk.value(0, 0), 200);
        Check.due("the value", Check.lastValue(desk), "a" + "x".repeat(192) + "bcdefgz");
    }

    private static void anEmptiedTapeTakesTwoHundredAgain() {
        for (int how = 0; how < 4; how++) {
            ValueDesk desk = new ValueDesk();
            Check.put(desk, (how % 2 == 0 ? "x" : "&").repeat(200));
            int answer = how < 2 ? desk.value(0, 0) : desk.define(0);
            Check.due("the reading of a full tape, " + how, answer, new int[] {200, -1, -8, -1}[how]);
            Check.due("count(0)", desk.count(0), 0);
            Check.put(desk, "y".repeat(200));
            Check.no("put of 1 behind 200", desk.put('z', 1));
            Check.due("value(0, 0)", desk.value(0, 0), 200);
            Check.due("the value", Check.lastValue(desk), "y".repeat(200));
        }
    }

    /** What is no character is a fault only where the tape is read. */
    private static void anyByteIsTaken() {
        int[] bytes = {0, 1, 8, 31, 127, 128, 254, 255};
        for (int each : bytes) {
            ValueDesk desk = new ValueDesk();
            Check.yes("put(" + each + ", 1)", desk.put(each, 1));
            Check.due("count(0)", desk.count(0), 1);
            Check.due("place()", desk.place(), -1);
            Check.due("value(0, 0)", desk.value(0, 0), -1);
            Check.due("place()", desk.place(), 0);
        }
        ValueDesk desk = new ValueDesk();
        Check.yes("put(Long.MIN_VALUE, 8)", desk.put(Long.MIN_VALUE, 8));
        Check.yes("put(-1, 8)", desk.put(-1, 8));
        Check.yes("put(0, 8)", desk.put(0, 8));
        Check.due("count(0)", desk.count(0), 24);
    }
}
