/** The faults UNKNOWN, RING and METER, the meter and the depth, at each boundary, one below and one above. */
public final class EntityBoundsTest {
    public static void main(String[] args) {
        withoutAText();
        anEmptyTextIsOne();
        oneThatIsBeingPutIn();
        oneThatWasPutInIsNoRing();
        theLimit();
        theLimitZero();
        theHighestLimit();
        unknownAndRingAreAheadOfTheMeter();
        theMeterBehindAFault();
        depths();
        Check.end();
    }

    /** UNKNOWN: "a reference to an entity without a text (its &)" */
    private static void withoutAText() {
        for (char c = 'a'; c <= 'z'; c++) {
            ValueDesk desk = new ValueDesk();
            Check.faultOfValue(desk, "xy&" + c + ";z", 100, 2, 2);
            Check.define(desk, c, "w");
            Check.valueIs(desk, "xy&" + c + ";z", 0, "xywz");
            Check.faultOfValue(desk, "xy&" + (char) (c == 'z' ? 'a' : c + 1) + ";z", 100, 2, 2);
            desk.clear();
            Check.faultOfValue(desk, "xy&" + c + ";z", 100, 2, 2);
        }
    }

    private static void anEmptyTextIsOne() {
        ValueDesk desk = new ValueDesk();
        Check.faultOfValue(desk, "&a;", 0, 2, 0);
        Check.due("define of the empty tape", desk.define(0), 0);
        Check.valueIs(desk, "&a;", 0, "");
        Check.due("count(3)", desk.count(3), 0);
        Check.due("count(4)", desk.count(4), 1);
    }

    /** RING: "to one that is being put in (its &)", over rings of one entity up to all of them. */
    private static void oneThatIsBeingPutIn() {
        for (int length = 1; length <= 26; length++) {
            ValueDesk desk = chain(length, "&a;");
            Check.faultOfValue(desk, "xy&a;", 1000, 3, 2);
            Check.due("count(3) of a ring of " + length, desk.count(3), 3 * length);
            Check.due("count(4) of a ring of " + length, desk.count(4), length);
            Check.faultOfValue(desk, "xy&" + (char) ('a' + length - 1) + ";", 1000, 3, 2);
            Check.due("count(4) of a ring of " + length, desk.count(4), length);
        }
        Check.faultOfValue(Check.desk("a=..&b;", "b=&b;"), "x&a;", 99, 3, 1);
    }

    /** Put in twice is no ring, nor is one that was put in within another one that has ended. */
    private static void oneThatWasPutInIsNoRing() {
        ValueDesk desk = Check.desk("a=x", "b=&a;&a;", "c=&a;&b;&a;", "d=&c;&b;&a;");
        Check.valueIs(desk, "&a;&a;", 0, "xx");
        Check.valueIs(desk, "&d;&a;&d;", 0, "x".repeat(15));
        // What a fault left half put in is not being put in any more.
        ValueDesk other = Check.desk("a=&b;", "b=&c;");
        Check.faultOfValue(other, "&a;", 99, 2, 0);
        Check.define(other, 'c', "y");
        Check.valueIs(other, "&a;&b;&c;", 0, "yyy");
    }

    /** METER: "an entity's text with which those that were put in have more characters than the limit in all" */
    private static void theLimit() {
        String[] tapes = {"&a;", "xx&a;", "&a;&a;", "&b;", "x&b;", "&a;&b;", "&b;&a;", "&c;", "&d;&d;", "&e;"};
        // The meter's load in all, and the place of the reference in the tape that brings its last part.
        int[] loads = {5, 5, 10, 11, 11, 16, 16, 14, 10, 5};
        int[] places = {0, 2, 3, 0, 1, 3, 3, 0, 3, 0};
        for (int i = 0; i < tapes.length; i++) {
            for (int limit = loads[i] - 1; limit <= loads[i] + 1; limit++) {
                ValueDesk desk = Check.desk("a=12345", "b=[&a;]x", "c=&b;", "d=&#38;#65;", "e=&#65;2345");
                boolean due = limit >= loads[i];
                String call = "value of " + tapes[i] + " with limit " + limit;
                int answer = Check.value(desk, tapes[i], 0, limit);
                Check.due(call + " is a value", answer >= 0 ? 1 : answer, due ? 1 : -6);
                Check.due("place() behind " + call, desk.place(), due ? -1 : places[i]);
                Check.due("count(2) behind " + call, desk.count(2), due ? answer : 0);
                if (due) {
                    Check.due("count(3) behind " + call, desk.count(3), loads[i]);
                }
            }
        }
    }

    /** A limit of 0: what stands in the tape and empty texts are no load. */
    private static void theLimitZero() {
        ValueDesk desk = Check.desk("a=", "b=x", "c=&a;");
        Check.due("the tape", Check.value(desk, "x".repeat(195) + "&#65;", 0, 0), 196);
        Check.due("empty texts", Check.value(desk, "&a;&a;&a;", 0, 0), 0);
        Check.due("count(4)", desk.count(4), 1);
        Check.faultOfValue(desk, "&a;&b;", 0, 6, 3);
        Check.due("with 1", Check.value(desk, "&a;&b;", 0, 1), 1);
        Check.faultOfValue(desk, "&a;&c;", 0, 6, 3);
        Check.faultOfValue(desk, "&a;&c;", 2, 6, 3);
        Check.due("with 3", Check.value(desk, "&a;&c;", 0, 3), 0);
    }

    /** "a limit of the meter, 0 .. 100000": loads of 99999, 100000 and 100001 characters. */
    private static void theHighestLimit() {
        String[] texts = {"e=", "g=" + "&e;".repeat(33), "h=" + "&g;".repeat(33), "j=&e;&e;&e;", "x=x"};
        // 29 of 99 + 33 * 99 = 3366, 24 of 99 and one of 9 are 99999.
        String load = "&h;".repeat(29) + "&g;".repeat(24) + "&j;";
        int size = load.length();
        for (int more = 0; more <= 2; more++) {
            String tape = load + "&x;".repeat(more);
            for (int limit = 99998; limit <= 100000; limit++) {
                ValueDesk desk = Check.desk(texts);
                boolean due = 99999 + more <= limit;
                int reached = limit < 99999 ? 99990 : Math.min(99999 + more, limit);
                int place = limit < 99999 ? size - 3 : size + 3 * (limit - 99999);
                String call = "a load of " + (99999 + more) + " with limit " + limit;
                Check.due(call, Check.value(desk, tape, 0, limit), due ? more : -6);
                Check.due("place() behind " + call, desk.place(), due ? -1 : place);
                Check.due("count(3) behind " + call, desk.count(3), reached);
                Check.due("count(4) behind " + call, desk.count(4), 3);
            }
        }
    }

    /** "looked at behind 2 and 3" */
    private static void unknownAndRingAreAheadOfTheMeter() {
        ValueDesk desk = Check.desk("a=&a;", "b=&z;", "c=&a;");
        Check.faultOfValue(desk, "&z;", 0, 2, 0);
        Check.faultOfValue(desk, "&b;", 2, 6, 0);
        Check.faultOfValue(desk, "&b;", 3, 2, 0);
        Check.faultOfValue(desk, "&a;", 2, 6, 0);
        Check.faultOfValue(desk, "&a;", 3, 3, 0);
        Check.faultOfValue(desk, "&c;", 3, 6, 0);
        Check.faultOfValue(desk, "&c;", 5, 6, 0);
        Check.faultOfValue(desk, "&c;", 6, 3, 0);
    }

    /** count: "3 the meter behind the last value() (also with a fault), 4 how deep [..] at most in it" */
    private static void theMeterBehindAFault() {
        String[] tapes = {"&a;&", "&a;&z;", "&a;&r;", "&a;<", "&a;&#1;", "&a;&b;", "&a;&h;", "&a;&x;&x;&x;", "&", "&b;&", "",
            "&b;"};
        int[] answers = {-1, -2, -3, -4, -5, -6, -7, -8, -1, -1, 0, -6};
        int[] meters = {3, 3, 6, 3, 3, 3, 4, 303, 0, 6, 0, 3};
        int[] depths = {1, 1, 1, 1, 1, 1, 1, 1, 0, 2, 0, 1};
        for (int i = 0; i < tapes.length; i++) {
            ValueDesk desk = Check.desk("a=abc", "b=&a;", "r=&r;", "h=&#38;", "x=" + "x".repeat(100));
            Check.value(desk, "&b;&b;&b;", 0, 999);
            int limit = answers[i] == -6 ? 5 : answers[i] == -8 ? 303 : 999;
            int answer = Check.value(desk, tapes[i], 0, limit);
            Check.due("value of " + tapes[i], answer, answers[i]);
            Check.due("count(3) behind " + tapes[i], desk.count(3), meters[i]);
            Check.due("count(4) behind " + tapes[i], desk.count(4), depths[i]);
            Check.define(desk, 'q', "other");
            desk.clear();
            Check.due("count(3) still", desk.count(3), meters[i]);
            Check.due("count(4) still", desk.count(4), depths[i]);
        }
    }

    /** "4 how deep entities were put into one another at most in it": none, one, and up to all of them. */
    private static void depths() {
        ValueDesk none = new ValueDesk();
        Check.value(none, "x&#65;", 0, 0);
        Check.due("count(4) without an entity", none.count(4), 0);
        for (int length = 1; length <= 26; length++) {
            ValueDesk desk = chain(length, "!");
            Check.valueIs(desk, "&a;", 0, "!");
            Check.due("count(3) of a chain of " + length, desk.count(3), 3 * length - 2);
            Check.due("count(4) of a chain of " + length, desk.count(4), length);
            Check.valueIs(desk, "&" + (char) ('a' + length - 1) + ";&a;&" + (char) ('a' + length - 1) + ";", 0, "!!!");
            Check.due("count(4) of a chain of " + length, desk.count(4), length);
            Check.valueIs(desk, "&" + (char) ('a' + length - 1) + ";", 0, "!");
            Check.due("count(4) of the last of " + length, desk.count(4), 1);
        }
    }

    /** a brings b, b brings c, and so on; the last one brings what is told. */
    private static ValueDesk chain(int length, String last) {
        ValueDesk desk = new ValueDesk();
        for (int k = 0; k < length - 1; k++) {
            Check.define(desk, (char) ('a' + k), "&" + (char) ('b' + k) + ";");
        }
        Check.define(desk, (char) ('a' + length - 1), last);
        return desk;
    }
}
