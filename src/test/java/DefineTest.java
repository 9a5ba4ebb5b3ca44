/** Promise 3. */
public final class DefineTest {
    public static void main(String[] args) {
        whatATextHolds();
        everyEntity();
        oneThatHasAText();
        refused();
        syntax();
        number();
        room();
        Check.end();
    }

    private static void whatATextHolds() {
        defines("plain", "plain");
        defines("", "");
        defines("\t\n\r ~", "\t\n\r ~");
        defines("a<b", "a<b");
        defines("&#60;&#x3C;&#x3c;", "<<<");
        defines("&#9;&#10;&#13;&#32;&#126;", "\t\n\r ~");
        defines("x&#65;&b;y", "xA&b;y");
        defines("&a;&z;", "&a;&z;");
        defines("&#38;#60;", "&#60;");
        defines("&#38;", "&");
        defines("&#38;1", "&1");
        defines("&#000065;&#x000041;&#x4a;&#x4A;", "AAJJ");
        defines("; # &#59;", "; # ;");
    }

    private static void defines(String tape, String text) {
        ValueDesk desk = new ValueDesk();
        Check.due("define of [" + tape + "]", Check.define(desk, 'a', tape), text.length());
        Check.due("count(0)", desk.count(0), 0);
        Check.due("count(1)", desk.count(1), 1);
        Check.due("place()", desk.place(), -1);
        Check.textIs(desk, 'a', text);
    }

    private static void everyEntity() {
        ValueDesk desk = new ValueDesk();
        for (char c = 'a'; c <= 'z'; c++) {
            Check.due("define of " + c, Check.define(desk, c, "<" + c + ">"), 3);
            Check.due("count(1)", desk.count(1), c - 'a' + 1);
        }
        for (char c = 'a'; c <= 'z'; c++) {
            Check.textIs(desk, c, "<" + c + ">");
        }
    }

    private static void oneThatHasAText() {
        ValueDesk desk = Check.desk("a=one");
        Check.due("define of one that has a text", Check.define(desk, 'a', "other"), -9);
        Check.due("place()", desk.place(), -1);
        Check.due("count(0)", desk.count(0), 0);
        Check.due("count(1)", desk.count(1), 1);
        Check.textIs(desk, 'a', "one");
        Check.faultOfDefine(desk, 'a', "ab&", 1, 3);
        Check.faultOfDefine(desk, 'a', "a&#1;", 5, 1);
        Check.faultOfDefine(desk, 'a', "x".repeat(101), 8, 100);
        Check.due("define with the empty tape", desk.define(0), -9);
        Check.textIs(desk, 'a', "one");
        ValueDesk empty = Check.desk("a=");
        Check.due("an empty text is one", Check.define(empty, 'a', "x"), -9);
        Check.textIs(empty, 'a', "");
    }

    private static void refused() {
        ValueDesk desk = Check.desk("a=x&b;");
        Check.faultOfValue(desk, "p&a;", 9, 2, 1);
        Check.put(desk, "&");
        int[] none = {-1, 26, 27, 97, Integer.MIN_VALUE, Integer.MAX_VALUE};
        for (int k : none) {
            Check.due("define(" + k + ")", desk.define(k), -10);
            Check.due("count(0)", desk.count(0), 1);
            Check.due("count(1)", desk.count(1), 1);
            Check.due("place()", desk.place(), 1);
        }
    }

    private static void syntax() {
        ValueDesk desk = new ValueDesk();
        String[] broken = {"&", "x&1;", "&A;", "&{;", "&`;", "&;", "&ab;", "&a", "&a ;", "&&a;", "&#", "&#;", "&#a;",
            "&#6", "&#65", "&#65x", "&#6a;", "&#0000065;", "&#x", "&#x;", "&#xg;", "&#xG1;", "&#x4", "&#x0000041;",
            "&#X41;", "&#-5;", "&#x4@;", "&#x4`;", "&#:;", "&#/;", "&#999999", "&# 65;", "& a;"};
        int[] places = {1, 2, 1, 1, 1, 1, 2, 2, 2, 1, 2, 2, 2,
            3, 4, 4, 3, 8, 3, 3, 3, 3, 4, 9,
            2, 2, 4, 4, 2, 2, 8, 2, 1};
        for (int i = 0; i < broken.length; i++) {
            Check.faultOfDefine(desk, 'a', broken[i], 1, places[i]);
        }
        for (int c = 0; c <= 255; c++) {
            boolean character = c == 9 || c == 10 || c == 13 || c >= 32 && c <= 126;
            if (!character) {
                Check.faultOfDefine(new ValueDesk(), 'a', "ok" + (char) c, 1, 2);
                Check.faultOfDefine(new ValueDesk(), 'a', "&a" + (char) c, 1, 2);
            }
        }
        Check.faultOfDefine(desk, 'a', "x".repeat(100) + "\1", 1, 100);
        Check.faultOfDefine(desk, 'a', "x".repeat(100) + "&b", 1, 102);
        Check.due("count(1)", desk.count(1), 0);
        Check.due("text(0, 0)", desk.text(0, 0), -1);
    }

    private static void number() {
        for (int c = 0; c <= 300; c++) {
            boolean character = c == 9 || c == 10 || c == 13 || c >= 32 && c <= 126;
            byNumber("&#" + c + ";", character, c);
            byNumber("&#x" + Integer.toHexString(c) + ";", character, c);
            byNumber("&#x" + Integer.toHexString(c).toUpperCase() + ";", character, c);
        }
        byNumber("&#999999;", false, 0);
        byNumber("&#xffffff;", false, 0);
        byNumber("&#x100041;", false, 0);
        byNumber("&#000000;", false, 0);
        ValueDesk desk = new ValueDesk();
        Check.faultOfDefine(desk, 'a', "x".repeat(100) + "&#1;", 5, 100);
    }

    private static void byNumber(String tape, boolean character, int c) {
        ValueDesk desk = new ValueDesk();
        if (character) {
            Check.due("define of " + tape, Check.define(desk, 'a', tape), 1);
            Check.due("text behind " + tape, desk.text(0, 0), (long) c << 56);
        } else {
            Check.faultOfDefine(desk, 'a', "xy" + tape, 5, 2);
            Check.due("count(1) behind " + tape, desk.count(1), 0);
        }
    }

    private static void room() {
        defines("x".repeat(100), "x".repeat(100));
        defines("x".repeat(97) + "&a;", "x".repeat(97) + "&a;");
        defines("&#65;".repeat(40), "A".repeat(40));
        defines("x".repeat(99) + "&#65;", "x".repeat(99) + "A");
        ValueDesk desk = new ValueDesk();
        Check.faultOfDefine(desk, 'a', "x".repeat(101), 8, 100);
        Check.faultOfDefine(desk, 'a', "x".repeat(101) + "&", 8, 100);
        Check.faultOfDefine(desk, 'a', "x".repeat(98) + "&a;", 8, 98);
        Check.faultOfDefine(desk, 'a', "x".repeat(99) + "&a;", 8, 99);
        Check.faultOfDefine(desk, 'a', "x".repeat(100) + "&a;", 8, 100);
        Check.faultOfDefine(desk, 'a', "x".repeat(100) + "&#65;", 8, 100);
        Check.faultOfDefine(desk, 'a', "&#65;" + "x".repeat(99) + "yz", 8, 104);
        Check.due("count(1)", desk.count(1), 0);
    }
}
