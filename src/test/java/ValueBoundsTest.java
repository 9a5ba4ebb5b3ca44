/** Promise 4 and the Terms' VALUE, at each boundary, one below and one above. */
public final class ValueBoundsTest {
    private static final String[] TEXTS = {"a=" + "x".repeat(100), "b=" + "y".repeat(99), "c=z", "d=", "e=&a;&a;&a;",
        "f=&a;&a;&b;", "g=&#38;#65;", "h=&d;&d;", "i=zz"};

    public static void main(String[] args) {
        modesAndLimits();
        refusedIsAheadOfAFault();
        theTapeIsEmptyThen();
        upToThreeHundredByBytes();
        upToThreeHundredByEntities();
        roomIsWhereOneMoreIsBrought();
        roomIsAheadOfLeavingOut();
        thereIsNoValueThen();
        blanksThatStand();
        blanksByReferences();
        blanksAtTheEnds();
        blanksSideBySide();
        Check.end();
    }

    /** "in mode 0 or 1, with a limit of the meter, 0 .. 100000", "-10, refused, for another mode or limit" */
    private static void modesAndLimits() {
        int[] modes = {-1, 0, 1, 2};
        int[] limits = {-1, 0, 1, 99999, 100000, 100001};
        for (int mode : modes) {
            for (int limit : limits) {
                ValueDesk desk = new ValueDesk();
                Check.put(desk, "a  b");
                boolean due = mode >= 0 && mode <= 1 && limit >= 0 && limit <= 100000;
                String call = "value(" + mode + ", " + limit + ")";
                Check.due(call, desk.value(mode, limit), due ? 4 - mode : -10);
                Check.due("count(0) behind " + call, desk.count(0), due ? 0 : 4);
                Check.due("count(2) behind " + call, desk.count(2), due ? 4 - mode : 0);
            }
        }
    }

    private static void refusedIsAheadOfAFault() {
        String[] faulty = {"&", "\1", "&z;", "<", "&#0;"};
        for (String tape : faulty) {
            ValueDesk desk = new ValueDesk();
            Check.put(desk, tape);
            Check.due("value(2, 0) of [" + tape + "]", desk.value(2, 0), -10);
            Check.due("value(-1, 0) of [" + tape + "]", desk.value(-1, 0), -10);
            Check.due("value(0, -1) of [" + tape + "]", desk.value(0, -1), -10);
            Check.due("value(1, 100001) of [" + tape + "]", desk.value(1, 100001), -10);
            Check.due("place()", desk.place(), -1);
            Check.due("count(0)", desk.count(0), tape.length());
        }
    }

    /** "The tape (empty then)": with a value and with a fault. */
    private static void theTapeIsEmptyThen() {
        ValueDesk desk = new ValueDesk();
        Check.valueIs(desk, "", 0, "");
        Check.valueIs(desk, "", 1, "");
        Check.valueIs(desk, "x", 0, "x");
        Check.due("count(0)", desk.count(0), 0);
        Check.valueIs(desk, "", 0, "");
        Check.faultOfValue(desk, "x<y", 0, 4, 1);
        Check.valueIs(desk, "", 0, "");
        Check.valueIs(desk, "x".repeat(199), 0, "x".repeat(199));
        Check.valueIs(desk, "x".repeat(200), 0, "x".repeat(200));
    }

    /** ROOM: "more than 300 characters of a value", where bytes and references of the tape bring them. */
    private static void upToThreeHundredByBytes() {
        String[] last = {"w", "&#65;", "&#x41;", " ", "\t", "&#10;"};
        for (String each : last) {
            due("&a;&a;&b;", 0, 299);
            due("&a;&a;&b;" + each, 0, 300);
            fault("&a;&a;&b;w" + each, 8, 10);
            fault("&a;&a;&a;" + each, 8, 9);
            fault("&a;&a;&b;" + each + each, 8, 9 + each.length());
        }
        due("x".repeat(194) + "&a;&c;", 0, 295);
        due("&a;&a;" + "x".repeat(99), 0, 299);
        due("&a;&a;" + "x".repeat(100), 0, 300);
        fault("&a;&a;" + "x".repeat(101), 8, 106);
        due("x".repeat(194) + "&a;" + "&d;", 0, 294);
        fault("x".repeat(191) + "&a;" + "&a;", 8, 194);
    }

    private static void upToThreeHundredByEntities() {
        due("&f;", 0, 299);
        due("&e;", 0, 300);
        due("&f;&c;", 0, 300);
        due("&f;&g;", 0, 300);
        fault("&f;&i;", 8, 3);
        fault("&e;&c;", 8, 3);
        fault("&e;&g;", 8, 3);
        fault("w&e;", 8, 1);
        fault("ww&e;&c;", 8, 2);
        due("w&f;", 0, 300);
        fault("w&f;&c;", 8, 4);
        fault("&#65;&e;", 8, 5);
    }

    /** What brings no character lacks no room, and another fault is met ahead of it. */
    private static void roomIsWhereOneMoreIsBrought() {
        due("&e;&d;", 0, 300);
        due("&e;&h;&d;", 0, 300);
        fault("&e;&d;w", 8, 6);
        fault("&e;&", 1, 4);
        fault("&e;&a", 1, 5);
        fault("&e;\37", 1, 3);
        fault("&e;&z;", 2, 3);
        fault("&e;<", 4, 3);
        fault("&e;&#60;", 8, 3);
        fault("&e;&#31;", 5, 3);
        Check.faultOfValue(Check.desk(TEXTS), "&e;&c;", 309, 6, 3);
        Check.faultOfValue(Check.desk(TEXTS), "&e;&c;", 310, 8, 3);
        Check.faultOfValue(Check.desk("a=" + "x".repeat(100), "b=&b;", "c=x&b;"), "&a;&a;&a;&b;", 999, 3, 9);
        Check.faultOfValue(Check.desk("a=" + "x".repeat(100), "b=&b;", "c=x&b;"), "&a;&a;&a;&c;", 999, 8, 9);
        Check.faultOfValue(Check.desk("a=" + "x".repeat(100), "b=&#38;", "c=x&#38;"), "&a;&a;&a;&b;", 999, 7, 9);
        Check.faultOfValue(Check.desk("a=" + "x".repeat(100), "b=&#38;", "c=x&#38;"), "&a;&a;&a;&c;", 999, 8, 9);
    }

    /** "ahead of mode 1's leaving out" */
    private static void roomIsAheadOfLeavingOut() {
        String blanks = " ".repeat(100);
        String[] tapes = {"&a;&a;" + " ".repeat(99), "&a;&a;" + blanks, "&a;&a;" + blanks + " ", "&a;&a;&a;&#32;"};
        int[] answers = {0, 0, -8, -8};
        int[] places = {-1, -1, 106, 9};
        for (int i = 0; i < tapes.length; i++) {
            ValueDesk desk = Check.desk("a=" + blanks);
            Check.due("mode 1 of [" + tapes[i] + "]", Check.value(desk, tapes[i], 1, 999), answers[i]);
            Check.due("place()", desk.place(), places[i]);
            Check.due("count(2)", desk.count(2), 0);
        }
        ValueDesk desk = Check.desk("a=" + blanks);
        Check.valueIs(desk, "&a;&a;" + " ".repeat(98) + "xy", 1, "xy");
        Check.due("one more", Check.value(desk, "&a;&a;" + " ".repeat(99) + "xy", 1, 999), -8);
        Check.due("place()", desk.place(), 106);
    }

    /** "1 .. 8 below 0: the fault (there is no value then)" */
    private static void thereIsNoValueThen() {
        String[] faulty = {"xy&", "xy&z;", "xy&b;", "xy<", "xy&#1;", "xy&c;&c;", "xy&d;", "x&c;&e;"};
        for (int mode = 0; mode <= 1; mode++) {
            for (int fault = 1; fault <= 8; fault++) {
                ValueDesk desk = Check.desk("a=kept", "b=&b;", "c=" + "x".repeat(100), "d=&#38;", "e=&f;&f;", "f=&g;&g;",
                    "g=" + "w".repeat(99));
                Check.valueIs(desk, "before", 0, "before");
                int limit = fault == 6 ? 199 : 999;
                Check.due("value of " + faulty[fault - 1], Check.value(desk, faulty[fault - 1], mode, limit), -fault);
                Check.due("count(2) behind fault " + fault, desk.count(2), 0);
                for (int k = 0; k < 304; k += 8) {
                    Check.due("characters(" + k + ") behind fault " + fault, desk.characters(k), 0);
                }
                Check.due("characters(-1) behind fault " + fault, desk.characters(-1), -1);
                Check.due("count(1) behind fault " + fault, desk.count(1), 7);
                Check.valueIs(desk, "&a;", mode, "kept");
            }
        }
    }

    /** "A blank (9, 10, 13) that stands in the tape or a text gives 32" */
    private static void blanksThatStand() {
        int[] blanks = {9, 10, 13, 32};
        for (int c : blanks) {
            String standing = "[" + (char) c + "]";
            Check.valueIs(new ValueDesk(), standing, 0, "[ ]");
            Check.valueIs(Check.desk("a=" + standing), "&a;", 0, "[ ]");
            Check.valueIs(Check.desk("a=[&#" + c + ";]"), "&a;", 0, "[ ]");
            Check.valueIs(Check.desk("a=[&#" + c + ";]", "b=&a;"), "&b;", 0, "[ ]");
        }
        Check.valueIs(new ValueDesk(), "\r\n", 0, "  ");
        Check.valueIs(new ValueDesk(), "!~", 0, "!~");
    }

    /** "one by a reference to a character in the tape, or in a text as it stands then, itself" */
    private static void blanksByReferences() {
        int[] blanks = {9, 10, 13, 32};
        for (int c : blanks) {
            String due = "[" + (char) c + "]";
            Check.valueIs(new ValueDesk(), "[&#" + c + ";]", 0, due);
            Check.valueIs(new ValueDesk(), "[&#x" + Integer.toHexString(c) + ";]", 1, c == 32 ? "[ ]" : due);
            Check.valueIs(Check.desk("a=[&#38;#" + c + ";]"), "&a;", 0, due);
            Check.valueIs(Check.desk("a=[&#38;#" + c + ";]", "b=&a;"), "&b;", 0, due);
            Check.textIs(Check.desk("a=[&#38;#" + c + ";]"), 'a', "[&#" + c + ";]");
        }
    }

    /** Mode 1: "then 32s at both ends are left out", whatever brought them, and no other blank. */
    private static void blanksAtTheEnds() {
        String[] blanks = {" ", "\t", "\n", "\r", "&#32;", "&b;", "&c;"};
        for (String each : blanks) {
            for (int before = 0; before <= 3; before++) {
                for (int behind = 0; behind <= 3; behind++) {
                    ValueDesk desk = Check.desk("b=\t", "c=&#38;#32;");
                    Check.valueIs(desk, each.repeat(before) + "x" + each.repeat(behind), 1, "x");
                    Check.valueIs(desk, each.repeat(before) + each.repeat(behind), 1, "");
                    Check.valueIs(desk, each.repeat(before) + "x" + each.repeat(behind), 0,
                        " ".repeat(before) + "x" + " ".repeat(behind));
                }
            }
        }
        String[] others = {"&#9;", "&#10;", "&#13;"};
        char[] due = {'\t', '\n', '\r'};
        for (int i = 0; i < others.length; i++) {
            Check.valueIs(new ValueDesk(), others[i] + "x" + others[i], 1, due[i] + "x" + due[i]);
            Check.valueIs(new ValueDesk(), " " + others[i] + " ", 1, "" + due[i]);
        }
    }

    /** "and several side by side are one" */
    private static void blanksSideBySide() {
        for (int many = 0; many <= 4; many++) {
            String due = many == 0 ? "xy" : "x y";
            Check.valueIs(new ValueDesk(), "x" + " ".repeat(many) + "y", 1, due);
            Check.valueIs(new ValueDesk(), "x" + "&#32;".repeat(many) + "y", 1, due);
            Check.valueIs(new ValueDesk(), "x" + "\r\n".repeat(many) + "y", 1, due);
            Check.valueIs(new ValueDesk(), "x" + "&#9;".repeat(many) + "y", 1, "x" + "\t".repeat(many) + "y");
            Check.valueIs(Check.desk("b= "), "x" + "&b;".repeat(many) + "y", 1, due);
            Check.valueIs(new ValueDesk(), "x" + " ".repeat(many) + "y", 0, "x" + " ".repeat(many) + "y");
        }
        Check.valueIs(new ValueDesk(), "x &#10; y", 1, "x \n y");
        Check.valueIs(new ValueDesk(), "x" + " ".repeat(198) + "y", 1, "x y");
    }

    private static void due(String tape, int mode, int answer) {
        ValueDesk desk = Check.desk(TEXTS);
        Check.due("value of [" + tape + "]", Check.value(desk, tape, mode, 100000), answer);
        Check.due("place() behind [" + tape + "]", desk.place(), -1);
        Check.due("count(2) behind [" + tape + "]", desk.count(2), answer);
    }

    private static void fault(String tape, int fault, int place) {
        Check.faultOfValue(Check.desk(TEXTS), tape, 100000, fault, place);
    }
}
