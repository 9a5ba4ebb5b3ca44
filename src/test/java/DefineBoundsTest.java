/** Promise 3 and the Terms' DEFINING, at each boundary, one below and one above. */
public final class DefineBoundsTest {
    public static void main(String[] args) {
        zeroIsAAndTwentyFiveIsZ();
        noSuchOneIsAheadOfAFault();
        theTapeIsEmptyThen();
        upToAHundredBytes();
        upToAHundredByReferences();
        upToAHundredWithAnEntitysReference();
        roomIsWhereOneMoreIsBrought();
        whatIsNoFaultInDefining();
        ofAFaultNothingIsDefined();
        hadATextBefore();
        theFaultIsAheadOfHavingHadAText();
        Check.end();
    }

    /** "defines entity k (0 a .. 25 z)", "-10, refused, if there is no such one" */
    private static void zeroIsAAndTwentyFiveIsZ() {
        int[] tried = {-1, 0, 1, 24, 25, 26};
        for (int k : tried) {
            ValueDesk desk = new ValueDesk();
            Check.put(desk, "two");
            boolean due = k >= 0 && k <= 25;
            Check.due("define(" + k + ")", desk.define(k), due ? 3 : -10);
            Check.due("count(0) behind define(" + k + ")", desk.count(0), due ? 0 : 3);
            Check.due("count(1) behind define(" + k + ")", desk.count(1), due ? 1 : 0);
            if (due) {
                Check.valueIs(desk, "[&" + (char) ('a' + k) + ";]", 0, "[two]");
            }
        }
    }

    private static void noSuchOneIsAheadOfAFault() {
        String[] faulty = {"&", "\1", "&#0;", "x".repeat(101)};
        int[] none = {-1, 26, Integer.MIN_VALUE, Integer.MAX_VALUE};
        for (String tape : faulty) {
            for (int k : none) {
                ValueDesk desk = new ValueDesk();
                Check.put(desk, tape);
                Check.due("define(" + k + ") of [" + tape + "]", desk.define(k), -10);
                Check.due("place()", desk.place(), -1);
                Check.due("count(0)", desk.count(0), tape.length());
            }
        }
    }

    /** "The tape (empty then)": with a text, with a fault, and with -9. */
    private static void theTapeIsEmptyThen() {
        ValueDesk desk = new ValueDesk();
        Check.due("define of the empty tape", desk.define(0), 0);
        Check.due("count(0)", desk.count(0), 0);
        Check.due("count(1)", desk.count(1), 1);
        Check.due("text(0, 0)", desk.text(0, 0), 0);
        int[] answers = {Check.define(desk, 'b', "x"), Check.define(desk, 'c', "&"), Check.define(desk, 'b', "y")};
        Check.due("a text's first byte alone", answers[0], 1);
        Check.due("a fault", answers[1], -1);
        Check.due("one that had a text", answers[2], -9);
        Check.due("count(0)", desk.count(0), 0);
        Check.due("define of what is left", desk.define(3), 0);
    }

    /** "TEXT (up to 100 bytes)", "in defining more than 100" */
    private static void upToAHundredBytes() {
        int[] sizes = {0, 1, 99, 100, 101, 102, 199, 200};
        for (int size : sizes) {
            String tape = "x".repeat(size);
            if (size <= 100) {
                defines(tape, tape);
            } else {
                fault(tape, 8, 100);
            }
        }
    }

    private static void upToAHundredByReferences() {
        String[] one = {"&#65;", "&#x41;", "&#000065;", "&#x000041;"};
        for (String each : one) {
            defines("x".repeat(98) + each, "x".repeat(98) + "A");
            defines("x".repeat(99) + each, "x".repeat(99) + "A");
            fault("x".repeat(100) + each, 8, 100);
            defines("x".repeat(50) + each + "y".repeat(49), "x".repeat(50) + "A" + "y".repeat(49));
            fault("x".repeat(50) + each + "y".repeat(50), 8, 50 + each.length() + 49);
        }
    }

    /** "others as they stand": three bytes, whose want of room is told at the &. */
    private static void upToAHundredWithAnEntitysReference() {
        defines("x".repeat(96) + "&a;", "x".repeat(96) + "&a;");
        defines("x".repeat(97) + "&a;", "x".repeat(97) + "&a;");
        fault("x".repeat(98) + "&a;", 8, 98);
        fault("x".repeat(99) + "&a;", 8, 99);
        fault("x".repeat(100) + "&a;", 8, 100);
        defines("&z;".repeat(33) + "y", "&z;".repeat(33) + "y");
        fault("&z;".repeat(33) + "yy", 8, 100);
        fault("&z;".repeat(34), 8, 99);
    }

    /** ROOM: "the byte, or the & of the reference, that brings one more"; what brings none is another fault. */
    private static void roomIsWhereOneMoreIsBrought() {
        String full = "x".repeat(100);
        defines(full, full);
        fault(full + "y", 8, 100);
        fault(full + "&#65;", 8, 100);
        fault(full + "&b;", 8, 100);
        fault(full + "<", 8, 100);
        fault(full + "\t", 8, 100);
        fault(full + "\37", 1, 100);
        fault(full + "\177", 1, 100);
        fault(full + "&#31;", 5, 100);
        fault(full + "&", 1, 101);
        fault(full + "&1", 1, 101);
        fault(full + "&#65", 1, 104);
        fault("x".repeat(99) + "yz\1", 8, 100);
        fault("x".repeat(99) + "y\1z", 1, 100);
    }

    /** "1, 5, 8; a reference to an entity need not be known, a 60 may stand there" */
    private static void whatIsNoFaultInDefining() {
        defines("&q;", "&q;");
        defines("&a;", "&a;");
        defines("<", "<");
        defines("&#60;", "<");
        defines("&#x3c;<&#x3C;", "<<<");
        defines("&#38;", "&");
        defines("&#38;#", "&#");
        defines("&#38;1", "&1");
        defines("&#38;#0;", "&#0;");
        ValueDesk desk = Check.desk("a=&b;", "b=" + "x".repeat(100));
        Check.due("a ring is closed", Check.define(desk, 'c', "&c;&a;"), 6);
        Check.due("nothing is put in", Check.define(desk, 'd', "&b;&b;&b;&b;"), 12);
        Check.textIs(desk, 'd', "&b;&b;&b;&b;");
        Check.due("the meter is the last value's", desk.count(3), 0);
    }

    /** "Of a fault in defining (..) nothing is defined." */
    private static void ofAFaultNothingIsDefined() {
        String[] faulty = {"x&", "x\1", "x&#0;", "x".repeat(101), "x".repeat(98) + "&b;"};
        int[] due = {1, 1, 5, 8, 8};
        for (int i = 0; i < faulty.length; i++) {
            ValueDesk desk = Check.desk("b=kept");
            Check.due("define of [" + faulty[i] + "]", Check.define(desk, 'a', faulty[i]), -due[i]);
            Check.due("count(1)", desk.count(1), 1);
            Check.due("text(0, 0)", desk.text(0, 0), -1);
            Check.faultOfValue(desk, "&a;", 99, 2, 0);
            Check.textIs(desk, 'b', "kept");
            Check.due("define of what is left", desk.define(0), 0);
        }
    }

    /** "of one that has, it is read, but nothing else", "-9 if it had a text before" */
    private static void hadATextBefore() {
        String[] texts = {"", "x", "x".repeat(100)};
        for (String text : texts) {
            ValueDesk desk = new ValueDesk();
            Check.due("define", Check.define(desk, 'z', text), text.length());
            Check.due("define once more", Check.define(desk, 'z', "other"), -9);
            Check.due("place()", desk.place(), -1);
            Check.due("count(0)", desk.count(0), 0);
            Check.due("count(1)", desk.count(1), 1);
            Check.textIs(desk, 'z', text);
            Check.due("with the very text", Check.define(desk, 'z', text), -9);
            Check.due("with 100 characters", Check.define(desk, 'z', "y".repeat(100)), -9);
            Check.textIs(desk, 'z', text);
            desk.clear();
            Check.due("none has one behind clear()", Check.define(desk, 'z', "other"), 5);
            Check.textIs(desk, 'z', "other");
        }
    }

    /** "-9 if it had a text before (and the tape has no fault)" */
    private static void theFaultIsAheadOfHavingHadAText() {
        String[] faulty = {"xy&", "xy\0", "xy&#127;", "x".repeat(101)};
        int[] due = {1, 1, 5, 8};
        int[] places = {3, 2, 2, 100};
        for (int i = 0; i < faulty.length; i++) {
            ValueDesk desk = Check.desk("a=kept");
            Check.faultOfDefine(desk, 'a', faulty[i], due[i], places[i]);
            Check.textIs(desk, 'a', "kept");
            Check.due("count(1)", desk.count(1), 1);
            Check.due("without a fault", Check.define(desk, 'a', "x"), -9);
            Check.due("place()", desk.place(), -1);
        }
    }

    private static void defines(String tape, String text) {
        ValueDesk desk = new ValueDesk();
        Check.due("define of [" + tape + "]", Check.define(desk, 'a', tape), text.length());
        Check.due("place() behind [" + tape + "]", desk.place(), -1);
        Check.textIs(desk, 'a', text);
    }

    private static void fault(String tape, int fault, int place) {
        ValueDesk desk = new ValueDesk();
        Check.faultOfDefine(desk, 'a', tape, fault, place);
        Check.due("count(1) behind [" + tape + "]", desk.count(1), 0);
        Check.due("text(0, 0) behind [" + tape + "]", desk.text(0, 0), -1);
    }
}
