/** Promise 6. */
public final class CharactersTest {
    public static void main(String[] args) {
        ValueDesk desk = Check.desk("a=" + "x".repeat(100));
        Check.due("without a value", desk.characters(0), 0);
        Check.due("without a value", desk.characters(-1), -1);
        Check.valueIs(desk, "ABCDEFGHIJ", 0, "ABCDEFGHIJ");
        Check.due("characters(0)", desk.characters(0), 0x4142434445464748L);
        Check.due("characters(1)", desk.characters(1), 0x4243444546474849L);
        Check.due("characters(2)", desk.characters(2), 0x434445464748494AL);
        Check.due("characters(3)", desk.characters(3), 0x4445464748494A00L);
        Check.due("characters(9)", desk.characters(9), 0x4A00000000000000L);
        int[] behind = {10, 11, 299, 300, 301, Integer.MAX_VALUE - 7, Integer.MAX_VALUE - 1, Integer.MAX_VALUE};
        for (int k : behind) {
            Check.due("characters(" + k + ")", desk.characters(k), 0);
        }
        int[] below = {-1, -2, -7, -8, -9, Integer.MIN_VALUE, Integer.MIN_VALUE + 1};
        for (int k : below) {
            Check.due("characters(" + k + ")", desk.characters(k), -1);
        }
        // A shorter value leaves nothing of a longer one to be seen.
        Check.valueIs(desk, " Z ", 1, "Z");
        Check.due("characters(0)", desk.characters(0), 0x5A00000000000000L);
        Check.due("characters(1)", desk.characters(1), 0);
        Check.valueIs(desk, "&a;&a;&a;", 0, "x".repeat(300));
        Check.due("characters(292)", desk.characters(292), 0x7878787878787878L);
        Check.due("characters(293)", desk.characters(293), 0x7878787878787800L);
        Check.due("characters(299)", desk.characters(299), 0x7800000000000000L);
        Check.due("characters(300)", desk.characters(300), 0);
        Check.due("characters(-1)", desk.characters(-1), -1);
        Check.faultOfValue(desk, "AB<", 9, 4, 2);
        Check.due("characters(0) behind a fault", desk.characters(0), 0);
        Check.end();
    }
}
