/** What the tests share: comparing answers, and putting whole texts on a desk's tape. */
final class Check {
    private static int wrong = 0;

    private Check() {
    }

    static void due(String call, long got, long want) {
        if (got != want) {
            wrong++;
            System.out.println(call + " answered " + got + ", due is " + want);
        }
    }

    static void due(String call, String got, String want) {
        if (!got.equals(want)) {
            wrong++;
            System.out.println(call + " answered [" + got + "], due is [" + want + "]");
        }
    }

    static void yes(String call, boolean got) {
        due(call, got ? 1 : 0, 1);
    }

    static void no(String call, boolean got) {
        due(call, got ? 1 : 0, 0);
    }

    static void end() {
        if (wrong != 0) {
            System.out.println(wrong + " answers are not as due");
            System.exit(1);
        }
    }

    static void put(ValueDesk desk, String bytes) {
        for (int from = 0; from < bytes.length(); from += 8) {
            int n = Math.min(8, bytes.length() - from);
            long v = 0;
            for (int i = 0; i < n; i++) {
                v = v << 8 | bytes.charAt(from + i);
            }
            yes("put of a piece of [" + bytes + "]", desk.put(v, n));
        }
    }

    static int define(ValueDesk desk, char entity, String bytes) {
        put(desk, bytes);
        return desk.define(entity - 'a');
    }

    static int value(ValueDesk desk, String bytes, int mode, int limit) {
        put(desk, bytes);
        return desk.value(mode, limit);
    }

    /** A desk on which "a=text" and the like are defined. */
    static ValueDesk desk(String... definitions) {
        ValueDesk desk = new ValueDesk();
        for (String each : definitions) {
            define(desk, each.charAt(0), each.substring(2));
        }
        return desk;
    }

    static void faultOfValue(ValueDesk desk, String bytes, int limit, int fault, int place) {
        due("value of [" + bytes + "] with limit " + limit, value(desk, bytes, 0, limit), -fault);
        due("place() behind [" + bytes + "]", desk.place(), place);
        due("count(0) behind [" + bytes + "]", desk.count(0), 0);
        due("count(2) behind [" + bytes + "]", desk.count(2), 0);
        due("characters(0) behind [" + bytes + "]", desk.characters(0), 0);
    }

    static void valueIs(ValueDesk desk, String bytes, int mode, String want) {
        due("value of [" + bytes + "] in mode " + mode, value(desk, bytes, mode, 100000), want.length());
        due("place() behind [" + bytes + "]", desk.place(), -1);
        due("count(2) behind [" + bytes + "]", desk.count(2), want.length());
        due("the value of [" + bytes + "]", lastValue(desk), want);
    }

    static void faultOfDefine(ValueDesk desk, char entity, String bytes, int fault, int place) {
        due("define of [" + bytes + "]", define(desk, entity, bytes), -fault);
        due("place() behind define of [" + bytes + "]", desk.place(), place);
        due("count(0) behind define of [" + bytes + "]", desk.count(0), 0);
    }

    static void textIs(ValueDesk desk, char entity, String want) {
        StringBuilder got = new StringBuilder();
        for (int k = 0; desk.text(entity - 'a', k) > 0; k += 8) {
            unpack(desk.text(entity - 'a', k), got);
        }
        due("the text of " + entity, got.toString(), want);
    }

    static String lastValue(ValueDesk desk) {
        StringBuilder got = new StringBuilder();
        for (int k = 0; k < desk.count(2); k += 8) {
            unpack(desk.characters(k), got);
        }
        return got.toString();
    }

    private static void unpack(long word, StringBuilder to) {
        for (int shift = 56; shift >= 0; shift -= 8) {
            int c = (int) (word >>> shift) & 255;
            if (c != 0) {
                to.append((char) c);
            }
        }
    }
}
