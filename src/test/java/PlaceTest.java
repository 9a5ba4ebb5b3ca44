/** Promise 5: of which call the place is. The places themselves are FaultTest's and DefineTest's. */
public final class PlaceTest {
    public static void main(String[] args) {
        ValueDesk desk = new ValueDesk();
        due(desk, "a new object", -1);
        Check.faultOfValue(desk, "ab<", 9, 4, 2);
        Check.put(desk, "k");
        desk.put(0, 9);
        due(desk, "put", 2);
        desk.value(2, 0);
        desk.value(0, -1);
        desk.define(26);
        desk.define(-1);
        due(desk, "refused calls", 2);
        desk.characters(0);
        desk.text(0, 0);
        desk.count(3);
        desk.clear();
        due(desk, "clear and calls that only tell", 2);
        Check.due("define(0)", desk.define(0), 1);
        due(desk, "define without a fault", -1);
        Check.faultOfDefine(desk, 'b', "&#", 1, 2);
        Check.due("define of one that has a text", Check.define(desk, 'a', "m"), -9);
        due(desk, "define of one that has a text", -1);
        Check.faultOfDefine(desk, 'a', "abc&#0;", 5, 3);
        Check.valueIs(desk, "&a;", 0, "k");
        due(desk, "value without a fault", -1);
        Check.faultOfValue(desk, "&", 9, 1, 1);
        Check.faultOfValue(desk, "&z;", 9, 2, 0);
        Check.put(desk, "x".repeat(199) + "&");
        Check.due("value", desk.value(0, 0), -1);
        due(desk, "the end of a full tape", 200);
        Check.end();
    }

    private static void due(ValueDesk desk, String behind, int want) {
        Check.due("place() behind " + behind, desk.place(), want);
    }
}
