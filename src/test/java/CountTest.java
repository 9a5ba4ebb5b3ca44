/** Promise 9. */
public final class CountTest {
    public static void main(String[] args) {
        ValueDesk desk = Check.desk("a=x&b;", "b=y&c;&c;", "c=z", "d=..&a;<", "e=&e;");
        due(desk, 0, 5, 0, 0, 0);
        Check.put(desk, "p&a;&c;");
        due(desk, 7, 5, 0, 0, 0);
        desk.value(0, 100);
        due(desk, 0, 5, 6, 14, 3);
        Check.due("count(2) is that of the last value", Check.define(desk, 'f', "longer than it"), 14);
        due(desk, 0, 6, 6, 14, 3);
        Check.value(desk, "a  b ", 1, 0);
        due(desk, 0, 6, 3, 0, 0);
        Check.value(desk, "&c;&b;&c;", 0, 100);
        due(desk, 0, 6, 5, 11, 2);
        // Behind a fault the meter and the depth tell how far it went.
        Check.value(desk, "&c;&d;&c;", 0, 100);
        due(desk, 0, 6, 0, 1 + 6 + 4 + 7 + 2, 4);
        Check.value(desk, "&e;", 0, 100);
        due(desk, 0, 6, 0, 3, 1);
        Check.value(desk, "&z;", 0, 100);
        due(desk, 0, 6, 0, 0, 0);
        Check.value(desk, "&b;&a;", 0, 12);
        due(desk, 0, 6, 0, 9, 2);
        int[] other = {-1, 5, 6, Integer.MIN_VALUE, Integer.MAX_VALUE};
        for (int what : other) {
            Check.due("count(" + what + ")", desk.count(what), -1);
        }
        chainOfAll();
        Check.end();
    }

    private static void chainOfAll() {
        ValueDesk desk = new ValueDesk();
        for (char c = 'a'; c < 'z'; c++) {
            Check.define(desk, c, "" + c + "&" + (char) (c + 1) + ";");
        }
        Check.define(desk, 'z', "z");
        Check.valueIs(desk, "&a;", 0, "abcdefghijklmnopqrstuvwxyz");
        due(desk, 0, 26, 26, 25 * 4 + 1, 26);
        Check.valueIs(desk, "&y;&a;", 0, "yzabcdefghijklmnopqrstuvwxyz");
        due(desk, 0, 26, 28, 25 * 4 + 6, 26);
        desk.clear();
        for (char c = 'a'; c <= 'z'; c++) {
            Check.define(desk, c, "&" + (char) (c == 'z' ? 'a' : c + 1) + ";");
        }
        Check.faultOfValue(desk, "x&m;", 1000, 3, 1);
        due(desk, 0, 26, 0, 78, 26);
    }

    private static void due(ValueDesk desk, int... wants) {
        for (int what = 0; what < wants.length; what++) {
            Check.due("count(" + what + ")", desk.count(what), wants[what]);
        }
    }
}
