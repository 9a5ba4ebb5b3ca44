/** Promises 4 and 5: the faults of a value, their places, and which one is met first. */
public final class FaultTest {
    public static void main(String[] args) {
        syntax();
        unknown();
        ring();
        less();
        number();
        meter();
        half();
        room();
        firstOneMet();
        nothingStaysOpen();
        Check.end();
    }

    private static void syntax() {
        ValueDesk desk = Check.desk("a=x", "b=..&#38;1;..", "c=&b;", "d=&#38;ab;", "e=&#38;#x0000041;");
        String[] broken = {"&", "&1;", "&A;", "&;", "&ab;", "&a", "&a\1", "&&a;", "&#", "&#;", "&#a;", "&#65", "&#6a;",
            "&#0000065;", "&#x", "&#x;", "&#xg;", "&#x4", "&#x0000041;", "&#X41;", "&#999999!", "x&a&a;", "&<", "&\200;"};
        int[] places = {1, 1, 1, 1, 2, 2, 2, 1, 2, 2, 2, 4, 3,
            8, 3, 3, 3, 4, 9, 2, 8, 3, 1, 1};
        for (int i = 0; i < broken.length; i++) {
            Check.faultOfValue(desk, broken[i], 99, 1, places[i]);
        }
        for (int c = 0; c <= 255; c++) {
            boolean character = c == 9 || c == 10 || c == 13 || c >= 32 && c <= 126;
            if (!character) {
                Check.faultOfValue(new ValueDesk(), "ok" + (char) c, 99, 1, 2);
            }
        }
        Check.faultOfValue(desk, "p&b;", 99, 1, 1);
        Check.faultOfValue(desk, "pp&c;", 99, 1, 2);
        Check.faultOfValue(desk, "&a;&d;", 99, 1, 3);
        Check.faultOfValue(desk, "&a;&e;", 99, 1, 3);
    }

    private static void unknown() {
        ValueDesk desk = Check.desk("a=x&b;", "c=..&a;");
        Check.faultOfValue(desk, "&b;", 99, 2, 0);
        Check.faultOfValue(desk, "xx&z;", 99, 2, 2);
        Check.faultOfValue(desk, "xx&a;&z;", 99, 2, 2);
        Check.faultOfValue(desk, "x&c;", 99, 2, 1);
        // UNKNOWN and RING are looked at ahead of the meter.
        Check.faultOfValue(desk, "&b;", 0, 2, 0);
        desk.clear();
        Check.faultOfValue(desk, "&a;", 99, 2, 0);
    }

    private static void ring() {
        ValueDesk desk = Check.desk("a=&a;", "b=x&c;", "c=y&d;", "d=z&b;", "e=&f;&f;", "f=ok");
        Check.faultOfValue(desk, "&a;", 99, 3, 0);
        Check.faultOfValue(desk, "&a;", 3, 3, 0);
        Check.faultOfValue(desk, "x&b;", 99, 3, 1);
        Check.faultOfValue(desk, "xy&c;", 99, 3, 2);
        Check.due("count(4)", desk.count(4), 3);
        Check.due("count(3)", desk.count(3), 12);
        // One that has been put in already is no ring.
        Check.valueIs(desk, "&e;&f;&e;", 0, "okokokokok");
    }

    private static void less() {
        ValueDesk desk = Check.desk("a=<", "b=&#60;", "c=&#38;#60;", "d=x&a;");
        Check.faultOfValue(desk, "<", 99, 4, 0);
        Check.faultOfValue(desk, "ab<", 99, 4, 2);
        Check.faultOfValue(desk, "ab&a;", 99, 4, 2);
        Check.faultOfValue(desk, "a&b;", 99, 4, 1);
        Check.faultOfValue(desk, "abc&d;", 99, 4, 3);
        Check.valueIs(desk, "&c;&#60;&#x3c;", 0, "<<<");
    }

    private static void number() {
        ValueDesk desk = Check.desk("a=xx&#38;#0;", "b=&a;");
        for (int c = 0; c <= 300; c++) {
            boolean character = c == 9 || c == 10 || c == 13 || c >= 32 && c <= 126;
            if (character) {
                Check.valueIs(new ValueDesk(), "&#" + c + ";", 0, "" + (char) c);
                Check.valueIs(new ValueDesk(), "&#x" + Integer.toHexString(c) + ";", 0, "" + (char) c);
            } else {
                Check.faultOfValue(new ValueDesk(), "x&#" + c + ";", 99, 5, 1);
                Check.faultOfValue(new ValueDesk(), "xy&#x" + Integer.toHexString(c) + ";", 99, 5, 2);
            }
        }
        Check.faultOfValue(desk, "&#999999;", 99, 5, 0);
        Check.faultOfValue(desk, "&#xFFFFFF;", 99, 5, 0);
        Check.faultOfValue(desk, "abc&a;", 99, 5, 3);
        Check.faultOfValue(desk, "ab&b;", 99, 5, 2);
    }

    private static void meter() {
        ValueDesk desk = Check.desk("a=abc", "b=x&a;", "e=", "f=&e;&#38;#65;", "g=" + "&e;".repeat(33), "h=" + "&g;".repeat(33),
            "i=" + "&h;".repeat(33));
        Check.due("value within the limit", Check.value(desk, "&a;&a;", 0, 6), 6);
        Check.due("count(3)", desk.count(3), 6);
        Check.faultOfValue(desk, "&a;&a;", 5, 6, 3);
        Check.due("count(3)", desk.count(3), 3);
        Check.faultOfValue(desk, "x&a;", 2, 6, 1);
        Check.due("count(3)", desk.count(3), 0);
        Check.due("count(4)", desk.count(4), 0);
        Check.faultOfValue(desk, "xy&b;", 6, 6, 2);
        Check.due("count(3)", desk.count(3), 4);
        Check.due("count(4)", desk.count(4), 1);
        Check.due("value within the limit", Check.value(desk, "xy&b;", 0, 7), 6);
        Check.due("count(3)", desk.count(3), 7);
        Check.due("empty texts are no load", Check.value(desk, "&e;&e;", 0, 0), 0);
        // The text's characters as they stand are what is counted.
        Check.faultOfValue(desk, "&f;", 7, 6, 0);
        Check.due("value within the limit", Check.value(desk, "&f;", 0, 8), 1);
        Check.due("the tape is no load", Check.value(desk, "x".repeat(200), 0, 0), 200);
        Check.due("value of many", Check.value(desk, "&h;".repeat(29), 0, 100000), 0);
        Check.due("count(3)", desk.count(3), 29 * (99 + 33 * 99));
        Check.faultOfValue(desk, "&h;&i;", 100000, 6, 3);
        Check.due("count(4)", desk.count(4), 4);
    }

    private static void half() {
        ValueDesk desk = Check.desk("a=&#38;", "b=x&#38;a", "c=&#38;#", "d=&#38;#x", "e=&#38;#65", "f=&#38;#x000041", "g=..&a;",
            "h=&#38;999");
        for (char c = 'a'; c <= 'g'; c++) {
            Check.faultOfValue(desk, "p&" + c + ";c;", 99, 7, 1);
        }
        Check.faultOfValue(desk, "p&h;c;", 99, 1, 1);
        Check.faultOfValue(desk, "&", 99, 1, 1);
    }

    private static void room() {
        ValueDesk desk = Check.desk("a=" + "x".repeat(100), "b=" + "y".repeat(99), "c=z", "d=" + " ".repeat(100), "e=",
            "f=&a;&a;&a;&c;", "g=&#38;#65;");
        String full = "x".repeat(300);
        Check.valueIs(desk, "&a;&a;&a;", 0, full);
        Check.valueIs(desk, "&a;&a;&a;&e;", 0, full);
        Check.valueIs(desk, "&a;&a;&b;w", 0, "x".repeat(200) + "y".repeat(99) + "w");
        Check.valueIs(desk, "&a;&a;&b;&#65;", 0, "x".repeat(200) + "y".repeat(99) + "A");
        Check.faultOfValue(desk, "&a;&a;&a;w", 1000, 8, 9);
        Check.faultOfValue(desk, "&a;&a;&a;&#65;", 1000, 8, 9);
        Check.faultOfValue(desk, "&a;&a;&b;vw", 1000, 8, 10);
        Check.faultOfValue(desk, "&a;&a;&a;&c;", 1000, 8, 9);
        Check.faultOfValue(desk, "&a;&a;&a;&g;", 1000, 8, 9);
        Check.faultOfValue(desk, "&f;", 1000, 8, 0);
        Check.faultOfValue(desk, "w&a;&a;&a;", 1000, 8, 7);
        Check.due("blanks take room in mode 1 too", Check.value(desk, "&d;&d;&d; ", 1, 1000), -8);
        Check.due("place()", desk.place(), 9);
        Check.due("blanks within the room", Check.value(desk, "&d;&d;&d;", 1, 1000), 0);
    }

    private static void firstOneMet() {
        ValueDesk desk = Check.desk("a=" + "x".repeat(100), "b=<&#38;1", "c=&#38;1<");
        Check.faultOfValue(desk, "&z;<&", 99, 2, 0);
        Check.faultOfValue(desk, "<&z;&", 99, 4, 0);
        Check.faultOfValue(desk, "&1<&z;", 99, 1, 1);
        Check.faultOfValue(desk, "&b;&z;", 99, 4, 0);
        Check.faultOfValue(desk, "&c;&z;", 99, 1, 0);
        // What brings no character is no want of room.
        Check.faultOfValue(desk, "&a;&a;&a;<", 999, 4, 9);
        Check.faultOfValue(desk, "&a;&a;&a;\1", 999, 1, 9);
        Check.faultOfValue(desk, "&a;&a;&a;&#1;", 999, 5, 9);
        Check.faultOfValue(desk, "&a;&a;&a;&", 999, 1, 10);
        Check.faultOfValue(desk, "&a;&a;&a;&z;", 999, 2, 9);
        Check.faultOfValue(desk, "&a;&a;&a;&a;", 399, 6, 9);
        Check.faultOfValue(desk, "&a;&a;&a;&a;", 400, 8, 9);
    }

    private static void nothingStaysOpen() {
        ValueDesk desk = Check.desk("a=x&b;", "b=y&c;", "d=&d;");
        Check.faultOfValue(desk, "&a;", 99, 2, 0);
        Check.faultOfValue(desk, "&d;", 99, 3, 0);
        Check.faultOfValue(desk, "&a;", 99, 2, 0);
        Check.due("define of c", Check.define(desk, 'c', "z"), 1);
        Check.valueIs(desk, "&a;&b;&c;", 0, "xyzyzz");
    }
}
