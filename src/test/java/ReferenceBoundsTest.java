/**
 * Terms: which bytes are characters, and which references there are; each range at its ends, one below and one above,
 * where a tape is a value, where it defines, and where a text has it.
 */
public final class ReferenceBoundsTest {
    public static void main(String[] args) {
        bytesThatAreCharacters();
        lettersOfEntities();
        digits();
        digitsOfSixteen();
        oneToSixDigits();
        numbersOfCharacters();
        sixtyIsOneByItsNumber();
        theTapesEndWithinAReference();
        aTextThatEndsWithinAReference();
        Check.end();
    }

    /** "Bytes are CHARACTERS: 9, 10, 13, 32 .. 126; others (and 60, see below) are faults." */
    private static void bytesThatAreCharacters() {
        for (int c = 0; c <= 255; c++) {
            String tape = "p" + (char) c + "q";
            if (c == '&') {
                continue;
            }
            if (!isCharacter(c)) {
                both(tape, 1, 1);
                continue;
            }
            Check.due("define with byte " + c, Check.define(new ValueDesk(), 'a', tape), 3);
            if (c == '<') {
                Check.faultOfValue(new ValueDesk(), tape, 0, 4, 1);
            } else {
                Check.valueIs(new ValueDesk(), tape, 0, c < 32 ? "p q" : tape);
            }
        }
    }

    /** "& a letter a .. z ;" */
    private static void lettersOfEntities() {
        for (int c = 0; c <= 255; c++) {
            String tape = "&" + (char) c + ";";
            if (c >= 'a' && c <= 'z') {
                Check.due("define with " + tape, Check.define(new ValueDesk(), 'a', tape), 3);
                Check.faultOfValue(new ValueDesk(), tape, 0, 2, 0);
            } else {
                both(tape, 1, c == '#' ? 2 : 1);
            }
            if (c != ';') {
                both("&a" + (char) c + ";", 1, 2);
                both("&z" + (char) c, 1, 2);
            }
        }
    }

    /** "&# 1 .. 6 digits ;" */
    private static void digits() {
        for (int c = 0; c <= 255; c++) {
            if (c >= '0' && c <= '9') {
                gives("&#7" + (char) c + ";", 70 + c - '0');
                gives("&#0" + (char) c + "7;", 10 * (c - '0') + 7);
            } else if (c != ';') {
                both("&#7" + (char) c + ";", 1, 3);
                both("&#77777" + (char) c + ";", 1, 7);
                both("&#" + (char) c + "G;", 1, c == 'x' ? 3 : 2);
            }
        }
    }

    /** "&#x 1 .. 6 of 0 .. 9 a .. f A .. F ;" */
    private static void digitsOfSixteen() {
        for (int c = 0; c <= 255; c++) {
            int digit = "0123456789abcdef".indexOf(c >= 'A' && c <= 'F' ? c + 32 : c);
            if (digit >= 0) {
                gives("&#x4" + (char) c + ";", 64 + digit);
                gives("&#x0" + (char) c + "5;", 16 * digit + 5);
            } else if (c != ';') {
                both("&#x4" + (char) c + ";", 1, 4);
                both("&#x44444" + (char) c + ";", 1, 8);
                both("&#x" + (char) c + "5;", 1, 3);
            }
        }
    }

    /** "1 .. 6", none and seven of them being too few and too many. */
    private static void oneToSixDigits() {
        both("&#;", 1, 2);
        gives("&#9;", 9);
        both("&#8;", 5, 0);
        gives("&#00065;", 65);
        gives("&#000065;", 65);
        both("&#0000065;", 1, 8);
        both("&#6500000;", 1, 8);
        both("&#999999;", 5, 0);
        both("&#9999999;", 1, 8);
        both("&#x;", 1, 3);
        gives("&#xA;", 10);
        both("&#xB;", 5, 0);
        gives("&#x00041;", 65);
        gives("&#x000041;", 65);
        both("&#x0000041;", 1, 9);
        both("&#x4100000;", 1, 9);
        both("&#xFFFFFF;", 5, 0);
        both("&#xffffff;", 5, 0);
        both("&#xfffffff;", 1, 9);
    }

    /** NUMBER: "a reference to no character", also where it is one but for some bits above. */
    private static void numbersOfCharacters() {
        for (int c = 0; c <= 260; c++) {
            byNumber(c);
        }
        int[] wide = {256 + 65, 65536 + 65, 65536 + 9, 99999, 100000, 131072 + 126, 999999};
        for (int c : wide) {
            byNumber(c);
        }
    }

    private static void byNumber(int c) {
        String[] forms = {"&#" + c + ";", "&#x" + Integer.toHexString(c) + ";"};
        for (String each : forms) {
            if (isCharacter(c)) {
                gives(each, c);
            } else {
                both(each, 5, 0);
            }
        }
    }

    /** "but 60 is one": no LESS where it comes by its number from the tape, or from a text as it stands then. */
    private static void sixtyIsOneByItsNumber() {
        gives("&#59;", 59);
        gives("&#60;", 60);
        gives("&#61;", 61);
        gives("&#x3c;", 60);
        Check.valueIs(Check.desk("a=&#38;#60;"), "&a;", 0, "<");
        Check.faultOfValue(Check.desk("a=&#60;"), "x&a;", 99, 4, 1);
        Check.faultOfValue(Check.desk("a=<"), "x&a;", 99, 4, 1);
        Check.faultOfValue(new ValueDesk(), "x<", 99, 4, 1);
        Check.valueIs(Check.desk("a=&#59;&#61;"), "x&a;", 0, "x;=");
    }

    /** SYNTAX: "or the tape's end within a reference", whose place is the tape's length. */
    private static void theTapesEndWithinAReference() {
        String[] whole = {"&a;", "&#9;", "&#000065;", "&#xA;", "&#x00004a;"};
        for (String each : whole) {
            for (int size = 1; size < each.length(); size++) {
                String tape = "xy" + each.substring(0, size);
                both(tape, 1, tape.length());
                both("&#65;".repeat(38) + "x".repeat(10 - size) + each.substring(0, size), 1, 200);
            }
        }
    }

    /** HALF: "a text that ends within a reference that began in it"; one byte more in it is SYNTAX, or no fault. */
    private static void aTextThatEndsWithinAReference() {
        String[] whole = {"&b;", "&#9;", "&#000065;", "&#xA;", "&#x00004a;"};
        for (String each : whole) {
            for (int size = 1; size < each.length(); size++) {
                String half = "&#38;" + each.substring(1, size);
                Check.faultOfValue(Check.desk("a=" + half, "b="), "xy&a;", 99, 7, 2);
                Check.faultOfValue(Check.desk("a=" + half, "b="), "xy&a;" + each.substring(size), 99, 7, 2);
                Check.faultOfValue(Check.desk("a=" + half, "b=", "c=&a;" + each.substring(size)), "x&c;", 99, 7, 1);
                Check.faultOfValue(Check.desk("a=" + half + "!", "b="), "xy&a;", 99, 1, 2);
                Check.faultOfValue(Check.desk("a=" + half + "&#38;", "b="), "xy&a;", 99, 1, 2);
                Check.faultOfValue(Check.desk("a=" + half + "<", "b="), "xy&a;", 99, 1, 2);
            }
            Check.due("the whole one", Check.value(Check.desk("a=&#38;" + each.substring(1), "b=x"), "xy&a;", 0, 99), 3);
        }
        Check.faultOfValue(Check.desk("a=&#38;#0000065"), "&a;", 99, 1, 0);
        Check.faultOfValue(Check.desk("a=" + "x".repeat(99) + "&#38;"), "&a;", 100, 7, 0);
        Check.faultOfValue(Check.desk("a=" + "x".repeat(98) + "&#38;!"), "&a;", 100, 1, 0);
    }

    private static boolean isCharacter(int c) {
        return c == 9 || c == 10 || c == 13 || c >= 32 && c <= 126;
    }

    /** The reference is that character: in the tape of a value, in a text as it stands, and in defining. */
    private static void gives(String reference, int c) {
        if (!isCharacter(c)) {
            both(reference, 5, 0);
            return;
        }
        ValueDesk desk = new ValueDesk();
        Check.valueIs(desk, reference, 0, "" + (char) c);
        Check.due("define of " + reference, Check.define(desk, 'a', reference), 1);
        Check.due("text(0, 0) behind " + reference, desk.text(0, 0), (long) c << 56);
        Check.define(desk, 'b', "&#38;" + reference.substring(1));
        Check.valueIs(desk, "&b;", 0, "" + (char) c);
    }

    /** The same fault at the same place for a value and for a define. */
    private static void both(String tape, int fault, int place) {
        Check.faultOfValue(new ValueDesk(), tape, 99, fault, place);
        Check.faultOfDefine(new ValueDesk(), 'a', tape, fault, place);
    }
}
