/** "An object is used for at most 512 calls": whatever came before, the last ones answer as the first ones did. */
public final class LifeTest {
    private static final int CALLS = 512;

    public static void main(String[] args) {
        roundsOfCalls();
        refusedCallsAlone();
        dearestCalls();
        Check.end();
    }

    /** 64 rounds of eight calls each. */
    private static void roundsOfCalls() {
        ValueDesk desk = new ValueDesk();
        for (int round = 0; round < CALLS / 8; round++) {
            Check.yes("put of a text", desk.put(0x26233130303BL, 6));
            Check.due("define(" + round % 26 + ")", desk.define(round % 26), 1);
            Check.yes("put of a reference", desk.put(0x26003BL + ('a' + round % 26 << 8), 3));
            Check.due("value(" + round % 2 + ", 1)", desk.value(round % 2, 1), 1);
            Check.due("characters(0)", desk.characters(0), 100L << 56);
            Check.due("text", desk.text(round % 26, 0), 100L << 56);
            Check.due("count(3)", desk.count(3), 1);
            Check.due("clear()", desk.clear(), 1);
        }
    }

    private static void refusedCallsAlone() {
        ValueDesk desk = new ValueDesk();
        for (int call = 0; call < CALLS - 3; call++) {
            switch (call % 3) {
                case 0: Check.no("put", desk.put(call, call % 2 * 9)); break;
                case 1: Check.due("define", desk.define(call % 2 * 27 - 1), -10); break;
                default: Check.due("value", desk.value(call % 2 * 3 - 1, 0), -10); break;
            }
        }
        Check.yes("put", desk.put('x', 1));
        Check.due("value(0, 0)", desk.value(0, 0), 1);
        Check.due("characters(0), the 512th call", desk.characters(0), (long) 'x' << 56);
    }

    /** The greatest load of the meter, over and over: it is anew with each value. */
    private static void dearestCalls() {
        ValueDesk desk = Check.desk("e=", "g=" + "&e;".repeat(33), "h=" + "&g;".repeat(33));
        int used = 0 + 1 + 13 + 1 + 13 + 1;
        int puts = 87 / 8 + 1;
        for (; used + puts + 2 <= CALLS; used += puts + 2) {
            Check.due("value", Check.value(desk, "&h;".repeat(29), 0, 100000), 0);
            Check.due("count(3)", desk.count(3), 29 * (99 + 33 * 99));
        }
    }
}
