/** Promise 8. */
public final class ClearTest {
    public static void main(String[] args) {
        ValueDesk desk = Check.desk("a=x&z;", "z=y", "m=");
        Check.valueIs(desk, "&a;", 0, "xy");
        Check.put(desk, "tape");
        Check.due("clear()", desk.clear(), 3);
        Check.due("count(0)", desk.count(0), 4);
        Check.due("count(1)", desk.count(1), 0);
        Check.due("count(2)", desk.count(2), 2);
        Check.due("count(3)", desk.count(3), 5);
        Check.due("count(4)", desk.count(4), 2);
        Check.due("the value still", Check.lastValue(desk), "xy");
        for (int e = 0; e < 26; e++) {
            Check.due("text(" + e + ", 0)", desk.text(e, 0), -1);
        }
        Check.due("clear() once more", desk.clear(), 0);
        Check.due("define(0)", desk.define(0), 4);
        Check.textIs(desk, 'a', "tape");
        Check.faultOfValue(desk, "&z;", 9, 2, 0);
        for (char c = 'b'; c <= 'z'; c++) {
            Check.due("define of " + c, Check.define(desk, c, ""), 0);
        }
        Check.due("clear() of all", desk.clear(), 26);
        Check.due("count(1)", desk.count(1), 0);
        Check.end();
    }
}
