/** Promises 1 and 5 to 9: what the calls that tell, and clear(), answer at each boundary, one below and one above. */
public final class TellingBoundsTest {
    public static void main(String[] args) {
        aNewObject();
        placesFromTheFirstByteToTheEnd();
        placeWithoutAFault();
        placeOfTheLastThatWasNotRefused();
        placeWithinWhatAnEntityBrings();
        charactersRoundTheEnds();
        textRoundTheEnds();
        textOfEntitiesRoundTheEnds();
        clearOfNoneUpToAll();
        clearLeavesAllElse();
        countOfWhat();
        countOfTheTape();
        countOfTheLastValue();
        Check.end();
    }

    /** "No entity has a text; the tape is empty; no value." */
    private static void aNewObject() {
        Check.due("what is told of a new object", Told.of(new ValueDesk()),
            "place -1, count(0) 0, count(1) 0, count(2) 0, count(3) 0, count(4) 0");
        Check.due("define(0) at once", new ValueDesk().define(0), 0);
        Check.due("value(1, 100000) at once", new ValueDesk().value(1, 100000), 0);
        Check.due("clear() at once", new ValueDesk().clear(), 0);
        Check.due("characters(-1) at once", new ValueDesk().characters(-1), -1);
    }

    /** "The place of the fault", at the first byte, round the last one, and at the tape's end. */
    private static void placesFromTheFirstByteToTheEnd() {
        int[] before = {0, 1, 98, 99, 100, 198, 199};
        for (int size : before) {
            Check.faultOfValue(new ValueDesk(), "x".repeat(size) + "\1", 0, 1, size);
            Check.faultOfValue(new ValueDesk(), "x".repeat(size) + "<", 0, 4, size);
            Check.faultOfValue(new ValueDesk(), "x".repeat(size) + "&", 0, 1, size + 1);
            if (size <= 197) {
                Check.faultOfValue(new ValueDesk(), "x".repeat(size) + "&q;", 0, 2, size);
            }
            if (size <= 100) {
                Check.faultOfDefine(new ValueDesk(), 'a', "x".repeat(size) + "\1", 1, size);
                Check.faultOfDefine(new ValueDesk(), 'a', "x".repeat(size) + "&#8;", 5, size);
                Check.faultOfDefine(new ValueDesk(), 'a', "x".repeat(size) + "&", 1, size + 1);
            }
        }
        Check.faultOfValue(new ValueDesk(), "x".repeat(197) + "&q;", 0, 2, 197);
        Check.faultOfValue(new ValueDesk(), "x".repeat(196) + "&#8;", 0, 5, 196);
    }

    /** "-1 without one" */
    private static void placeWithoutAFault() {
        ValueDesk desk = new ValueDesk();
        Check.due("place() at once", desk.place(), -1);
        Check.faultOfValue(desk, "<", 0, 4, 0);
        Check.due("value of the empty tape", desk.value(0, 0), 0);
        Check.due("place() behind it", desk.place(), -1);
        Check.faultOfValue(desk, "<", 0, 4, 0);
        Check.due("define of the empty tape", desk.define(0), 0);
        Check.due("place() behind it", desk.place(), -1);
        Check.faultOfValue(desk, "<", 0, 4, 0);
        Check.due("define of one that had a text", desk.define(0), -9);
        Check.due("place() behind it", desk.place(), -1);
    }

    /** "of the last define() or value() that was not refused" */
    private static void placeOfTheLastThatWasNotRefused() {
        ValueDesk desk = Check.desk("a=x");
        Check.faultOfDefine(desk, 'b', "abc&", 1, 4);
        Check.due("define(26)", desk.define(26), -10);
        Check.due("define(-1)", desk.define(-1), -10);
        Check.due("value(2, 0)", desk.value(2, 0), -10);
        Check.due("value(0, 100001)", desk.value(0, 100001), -10);
        Check.no("put(1, 9)", desk.put(1, 9));
        Check.yes("put('y', 1)", desk.put('y', 1));
        Check.due("clear()", desk.clear(), 1);
        Check.due("place() of the define", desk.place(), 4);
        Check.due("value(0, 0)", desk.value(0, 0), 1);
        Check.due("place() of the value", desk.place(), -1);
        Check.faultOfValue(desk, "x&#0;", 0, 5, 1);
        Check.due("value(-1, 0)", desk.value(-1, 0), -10);
        Check.due("place() of the value", desk.place(), 1);
        Check.faultOfDefine(desk, 'b', "&#0;", 5, 0);
    }

    /** "where it is met within what an entity brings, the PLACE is the & of the reference in the tape" */
    private static void placeWithinWhatAnEntityBrings() {
        String[] inner = {"&#38;!", "&y;", "&c;", "<", "&#38;#0;", "1234567", "&#38;"};
        for (int fault = 1; fault <= 7; fault++) {
            for (int before = 0; before <= 2; before++) {
                ValueDesk desk = Check.desk("a=..&b;", "b=...&c;", "c=" + inner[fault - 1]);
                String start = "x".repeat(before);
                int limit = fault == 6 ? 17 : 99;
                Check.faultOfValue(desk, start + "&a;..", limit, fault, before);
                Check.faultOfValue(desk, start + "&b;..", fault == 6 ? 12 : 99, fault, before);
                Check.faultOfValue(desk, start + "&c;..", fault == 6 ? 6 : 99, fault, before);
            }
        }
        String hundred = "w".repeat(100);
        Check.faultOfValue(Check.desk("a=..&b;", "b=&c;&c;&c;", "c=" + hundred), "x&a;", 999, 8, 1);
        Check.faultOfValue(Check.desk("a=..&b;", "b=&c;&c;&c;", "c=" + hundred), "&b;y&a;", 999, 8, 3);
    }

    /** "Eight characters of the last value from character k on, the first one highest, 0 behind its end; -1 if k is below 0" */
    private static void charactersRoundTheEnds() {
        int[] sizes = {0, 1, 7, 8, 9, 199, 200, 299, 300};
        for (int size : sizes) {
            ValueDesk desk = Check.desk("a=" + run(0, 100), "b=" + run(100, 200), "c=" + run(200, 300), "d=" + run(200, 299));
            String tape = size == 300 ? "&a;&b;&c;" : size == 299 ? "&a;&b;&d;" : run(0, size);
            Check.due("a value of " + size, Check.value(desk, tape, 0, 300), size);
            int[] starts = {-9, -8, -1, 0, 1, 2, size - 9, size - 8, size - 7, size - 1, size, size + 1, 292, 293, 300, 301,
                Integer.MIN_VALUE, Integer.MAX_VALUE - 8, Integer.MAX_VALUE - 7, Integer.MAX_VALUE};
            for (int k : starts) {
                Check.due("characters(" + k + ") of " + size, desk.characters(k), eightFrom(run(0, size), k));
            }
        }
    }

    /** "Likewise of the text of entity e" */
    private static void textRoundTheEnds() {
        int[] sizes = {0, 1, 7, 8, 9, 99, 100};
        for (int size : sizes) {
            ValueDesk desk = Check.desk("a=full", "m=" + run(0, size), "n=" + run(0, 100));
            int[] starts = {-9, -8, -1, 0, 1, 2, size - 9, size - 8, size - 7, size - 1, size, size + 1, 92, 93, 100, 101,
                Integer.MIN_VALUE, Integer.MAX_VALUE - 8, Integer.MAX_VALUE - 7, Integer.MAX_VALUE};
            for (int k : starts) {
                Check.due("text(12, " + k + ") of " + size, desk.text(12, k), eightFrom(run(0, size), k));
            }
        }
    }

    /** "-1 also if it has none", and if there is no such entity. */
    private static void textOfEntitiesRoundTheEnds() {
        int[] tried = {Integer.MIN_VALUE, -26, -1, 0, 1, 12, 24, 25, 26, 27, 97, 122, Integer.MAX_VALUE};
        for (int e : tried) {
            ValueDesk all = new ValueDesk();
            for (char c = 'a'; c <= 'z'; c++) {
                Check.define(all, c, "" + c);
            }
            boolean due = e >= 0 && e <= 25;
            Check.due("text(" + e + ", 0) where all have one", all.text(e, 0), due ? (long) ('a' + e) << 56 : -1);
            Check.due("text(" + e + ", 1) where all have one", all.text(e, 1), due ? 0 : -1);
            Check.due("text(" + e + ", -1) where all have one", all.text(e, -1), -1);
            all.clear();
            Check.due("text(" + e + ", 0) behind clear()", all.text(e, 0), -1);
            Check.due("text(" + e + ", 0) of a new object", new ValueDesk().text(e, 0), -1);
            Check.due("text(" + e + ", 1000) of a new object", new ValueDesk().text(e, 1000), -1);
        }
        ValueDesk empty = Check.desk("a=");
        Check.due("text(0, 0) of an empty text", empty.text(0, 0), 0);
        Check.due("text(1, 0) without one", empty.text(1, 0), -1);
    }

    /** "No entity has a text any more: how many had one." */
    private static void clearOfNoneUpToAll() {
        for (int many = 0; many <= 26; many++) {
            ValueDesk desk = new ValueDesk();
            for (int i = 0; i < many; i++) {
                // From z downwards for half of them, so that no end of the row is left out.
                Check.define(desk, (char) (many % 2 == 0 ? 'a' + i : 'z' - i), i % 2 == 0 ? "" : "x");
            }
            Check.due("count(1)", desk.count(1), many);
            Check.due("clear() of " + many, desk.clear(), many);
            Check.due("what is told behind it", Told.of(desk), Told.of(new ValueDesk()));
            Check.due("clear() once more", desk.clear(), 0);
        }
        ValueDesk desk = Check.desk("a=x", "b=&", "a=y");
        Check.due("count(1) of a fault and of one that had a text", desk.count(1), 1);
        Check.due("clear()", desk.clear(), 1);
    }

    /** Nothing but the entities' texts is cleared. */
    private static void clearLeavesAllElse() {
        ValueDesk desk = Check.desk("a=x", "z=&a;");
        Check.value(desk, "p&z;", 0, 9);
        Check.faultOfDefine(desk, 'b', "q&", 1, 2);
        Check.put(desk, "&a;");
        Check.due("clear()", desk.clear(), 2);
        Check.due("place()", desk.place(), 2);
        int[] due = {3, 0, 2, 4, 2};
        for (int what = 0; what <= 4; what++) {
            Check.due("count(" + what + ")", desk.count(what), due[what]);
        }
        Check.due("the value still", Check.lastValue(desk), "px");
        Check.due("the tape still, its entity without a text", desk.value(0, 9), -2);
        Check.due("define anew", Check.define(desk, 'a', "y"), 1);
        Check.valueIs(desk, "&a;", 0, "y");
    }

    /** "-1 for another what" */
    private static void countOfWhat() {
        ValueDesk desk = Check.desk("a=xy", "b=&a;", "c=");
        Check.value(desk, "&b;z", 0, 9);
        Check.put(desk, "1234");
        int[] due = {4, 3, 3, 5, 2};
        int[] tried = {Integer.MIN_VALUE, -2, -1, 0, 1, 2, 3, 4, 5, 6, 256, Integer.MAX_VALUE};
        for (int what : tried) {
            Check.due("count(" + what + ")", desk.count(what), what >= 0 && what <= 4 ? due[what] : -1);
        }
    }

    /** "0 bytes of the tape": none up to 200, each as it stands. */
    private static void countOfTheTape() {
        ValueDesk desk = new ValueDesk();
        for (int size = 1; size <= 200; size++) {
            Check.yes("put('&', 1)", desk.put('&', 1));
            Check.due("count(0)", desk.count(0), size);
        }
        Check.no("put('&', 1)", desk.put('&', 1));
        Check.due("count(0)", desk.count(0), 200);
        Check.due("value(0, 0)", desk.value(0, 0), -1);
        Check.due("count(0)", desk.count(0), 0);
    }

    /** "2 characters of the last value (0 without)", as they are behind mode 1's leaving out. */
    private static void countOfTheLastValue() {
        ValueDesk desk = Check.desk("a=" + "x".repeat(100), "b=" + "x".repeat(99));
        Check.valueIs(desk, "&a;&a;&b;", 0, "x".repeat(299));
        Check.valueIs(desk, "&a;&a;&a;", 0, "x".repeat(300));
        Check.faultOfValue(desk, "&a;&a;&a;x", 999, 8, 9);
        Check.valueIs(desk, " ", 0, " ");
        Check.valueIs(desk, " ", 1, "");
        Check.valueIs(desk, " x ", 1, "x");
    }

    /** Characters that tell where they stand: no two of them are the same within a word's reach. */
    private static String run(int from, int to) {
        StringBuilder run = new StringBuilder();
        for (int i = from; i < to; i++) {
            run.append((char) ('A' + i % 26));
        }
        return run.toString();
    }

    private static long eightFrom(String of, int k) {
        if (k < 0) {
            return -1;
        }
        long word = 0;
        for (long i = k; i < k + 8L; i++) {
            word = word * 256 + (i < of.length() ? of.charAt((int) i) : 0);
        }
        return word;
    }
}
