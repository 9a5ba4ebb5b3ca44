/** Promise 7. */
public final class TextTest {
    public static void main(String[] args) {
        ValueDesk desk = Check.desk("a=ABCDEFGHIJ", "b=", "z=" + "z".repeat(100), "c=\t&#10;&a;<&#60;");
        Check.due("text(0, 0)", desk.text(0, 0), 0x4142434445464748L);
        Check.due("text(0, 2)", desk.text(0, 2), 0x434445464748494AL);
        Check.due("text(0, 3)", desk.text(0, 3), 0x4445464748494A00L);
        Check.due("text(0, 9)", desk.text(0, 9), 0x4A00000000000000L);
        Check.due("text(0, 10)", desk.text(0, 10), 0);
        Check.due("text(2, 0)", desk.text(2, 0), 0x090A26613B3C3C00L);
        int[] behind = {100, 101, 2600, Integer.MAX_VALUE - 7, Integer.MAX_VALUE};
        for (int k : behind) {
            Check.due("text(0, " + k + ")", desk.text(0, k), 0);
            Check.due("text(1, " + k + ")", desk.text(1, k), 0);
            Check.due("text(25, " + k + ")", desk.text(25, k), 0);
        }
        Check.due("text(1, 0)", desk.text(1, 0), 0);
        Check.due("text(25, 92)", desk.text(25, 92), 0x7A7A7A7A7A7A7A7AL);
        Check.due("text(25, 93)", desk.text(25, 93), 0x7A7A7A7A7A7A7A00L);
        int[] below = {-1, -8, Integer.MIN_VALUE};
        for (int k : below) {
            Check.due("text(0, " + k + ")", desk.text(0, k), -1);
            Check.due("text(1, " + k + ")", desk.text(1, k), -1);
            Check.due("text(5, " + k + ")", desk.text(5, k), -1);
            Check.due("text(26, " + k + ")", desk.text(26, k), -1);
        }
        int[] none = {3, 24, 26, -1, 97, Integer.MAX_VALUE, Integer.MIN_VALUE};
        for (int e : none) {
            Check.due("text(" + e + ", 0)", desk.text(e, 0), -1);
            Check.due("text(" + e + ", 200)", desk.text(e, 200), -1);
        }
        desk.clear();
        Check.due("text(0, 0) behind clear()", desk.text(0, 0), -1);
        Check.due("define of a anew", Check.define(desk, 'a', "K"), 1);
        Check.due("text(0, 0)", desk.text(0, 0), 0x4B00000000000000L);
        Check.due("text(0, 1)", desk.text(0, 1), 0);
        Check.end();
    }
}
