/** Promise 4: what a value is. Its faults are FaultTest's. */
public final class ValueTest {
    public static void main(String[] args) {
        plainAndBlanks();
        references();
        modeOne();
        afterwards();
        refused();
        Check.end();
    }

    private static void plainAndBlanks() {
        ValueDesk desk = new ValueDesk();
        Check.valueIs(desk, "", 0, "");
        Check.valueIs(desk, "plain;#x", 0, "plain;#x");
        Check.valueIs(desk, "\ta\nb\rc d\r\n", 0, " a b c d  ");
        for (int c = 32; c <= 126; c++) {
            if (c != '&' && c != '<') {
                Check.valueIs(new ValueDesk(), "" + (char) c, 0, "" + (char) c);
            }
        }
    }

    private static void references() {
        ValueDesk desk = Check.desk("a=x&b;y", "b=[\t]", "c=&#10;&#13;&#9;", "d=&#38;#10;&#38;#x3c;&#38;#38;a;", "e=",
            "f=&e;&e;");
        Check.valueIs(desk, "&#65;&#x42;&#60;&#x3C;&#38;a;", 0, "AB<<&a;");
        Check.valueIs(desk, "&#9;&#10;&#13;&#32;", 0, "\t\n\r ");
        Check.valueIs(desk, "p&a;q&b;", 0, "px[ ]yq[ ]");
        Check.valueIs(desk, "&c;", 0, "   ");
        Check.valueIs(desk, "&d;", 0, "\n<&a;");
        Check.valueIs(desk, "&e;&e;", 0, "");
        Check.valueIs(desk, "1&f;2", 0, "12");
        Check.valueIs(desk, "&e;", 1, "");
        // An entity's text is looked up when it is put in, so it may be defined behind the one that names it.
        ValueDesk later = Check.desk("a=&z;");
        Check.faultOfValue(later, "&a;", 99, 2, 0);
        Check.due("define of z", Check.define(later, 'z', "last"), 4);
        Check.valueIs(later, "&a;&z;&a;", 0, "lastlastlast");
    }

    private static void modeOne() {
        ValueDesk desk = Check.desk("a=  x \n", "b=&#38;#32;", "e=");
        Check.valueIs(desk, "", 1, "");
        Check.valueIs(desk, "   ", 1, "");
        Check.valueIs(desk, " ", 1, "");
        Check.valueIs(desk, "a", 1, "a");
        Check.valueIs(desk, "  a \t\r\n b  c ", 1, "a b c");
        Check.valueIs(desk, "  a \t\r\n b  c ", 0, "  a     b  c ");
        Check.valueIs(desk, "a&#32;&#32; b&#x20;", 1, "a b");
        Check.valueIs(desk, "&#10;  &#10;&#10;a&#9;", 1, "\n \n\na\t");
        Check.valueIs(desk, " &a; &e; &b;y&b;", 1, "x y");
        Check.valueIs(desk, " ".repeat(200), 1, "");
    }

    private static void afterwards() {
        ValueDesk desk = Check.desk("a=abc");
        Check.valueIs(desk, "&a;&a;", 0, "abcabc");
        Check.due("count(0)", desk.count(0), 0);
        Check.due("count(1)", desk.count(1), 1);
        Check.valueIs(desk, "z", 0, "z");
        Check.due("characters(0)", desk.characters(0), (long) 'z' << 56);
        // A define, a put and a clear leave the last value as it is.
        Check.due("define of b", Check.define(desk, 'b', "other"), 5);
        Check.faultOfDefine(desk, 'c', "&", 1, 1);
        desk.clear();
        Check.put(desk, "more");
        Check.due("the value still", Check.lastValue(desk), "z");
        Check.due("count(2)", desk.count(2), 1);
    }

    private static void refused() {
        ValueDesk desk = Check.desk("a=abc");
        Check.valueIs(desk, "&a;", 0, "abc");
        Check.faultOfDefine(desk, 'b', "xx&", 1, 3);
        Check.put(desk, "&a;&a;");
        int[][] wrong = {{2, 1}, {-1, 1}, {Integer.MAX_VALUE, 1}, {Integer.MIN_VALUE, 1}, {0, -1}, {1, 100001}, {0, 100001},
            {1, -1}, {0, Integer.MAX_VALUE}, {1, Integer.MIN_VALUE}};
        for (int[] each : wrong) {
            Check.due("value(" + each[0] + ", " + each[1] + ")", desk.value(each[0], each[1]), -10);
            Check.due("count(0)", desk.count(0), 6);
            Check.due("count(2)", desk.count(2), 3);
            Check.due("count(3)", desk.count(3), 3);
            Check.due("count(4)", desk.count(4), 1);
            Check.due("place()", desk.place(), 3);
            Check.due("the value still", Check.lastValue(desk), "abc");
        }
        Check.due("value(1, 100000)", desk.value(1, 100000), 6);
        Check.due("value(0, 0)", desk.value(0, 0), 0);
    }
}
