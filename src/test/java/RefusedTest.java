/**
 * Terms: "A call that is refused changes nothing." Each refused call is made on a desk that has a twin without it; what
 * every other call answers on the two is then the same, the bytes of the tape (told by the value or text that they
 * give) among it.
 */
public final class RefusedTest {
    private interface Call {
        long on(ValueDesk desk);
    }

    private static final class Named {
        final String name;
        final Call call;

        Named(String name, Call call) {
            this.name = name;
            this.call = call;
        }
    }

    private static final Named[] SCENES = {
        named("a new object", desk -> 0),
        named("a tape", desk -> with(desk, "a&#66;c")),
        named("a broken tape", desk -> with(desk, "ab&")),
        named("a tape of 193", desk -> with(desk, "x".repeat(192) + "y")),
        named("a tape of 199", desk -> with(desk, "x".repeat(198) + "y")),
        named("a full tape", desk -> with(desk, "x".repeat(199) + "y")),
        named("a value", desk -> {
            texts(desk);
            Check.value(desk, "p &c;&#10;", 0, 20);
            return with(desk, "&a;&b;");
        }),
        named("a value of 300", desk -> {
            Check.define(desk, 'a', "z".repeat(100));
            Check.value(desk, "&a;&a;&a;", 0, 300);
            return with(desk, " &a; ");
        }),
        named("a fault of a value", desk -> {
            texts(desk);
            Check.value(desk, "pp&c;<", 0, 20);
            return with(desk, " &c;  ");
        }),
        named("a fault of a define", desk -> {
            texts(desk);
            Check.value(desk, "&c;", 1, 20);
            Check.define(desk, 'd', "xyz&#8;");
            return with(desk, "&d;");
        }),
        named("a define of one that had a text", desk -> {
            texts(desk);
            Check.value(desk, "<", 1, 20);
            Check.define(desk, 'a', "xyz");
            return with(desk, "&a;");
        }),
    };

    private static final Named[] WHAT_FOLLOWS = {
        named("nothing", desk -> 0),
        named("value(0, 100)", desk -> desk.value(0, 100)),
        named("value(1, 100000)", desk -> desk.value(1, 100000)),
        named("value(0, 0)", desk -> desk.value(0, 0)),
        named("define(0)", desk -> desk.define(0)),
        named("define(25)", desk -> desk.define(25)),
        named("clear()", desk -> desk.clear()),
        named("put(0x3B, 1) and value(0, 100)", desk -> (desk.put(0x3B, 1) ? 1000 : 2000) + desk.value(0, 100)),
    };

    public static void main(String[] args) {
        int[] odd = {Integer.MIN_VALUE, Integer.MIN_VALUE + 1, -256, -8, -2, -1};
        for (int below : odd) {
            refusedEverywhere(below);
        }
        int[] many = {Integer.MAX_VALUE, Integer.MAX_VALUE - 7, 1 << 30, 100001, 256, 26};
        for (int above : many) {
            refusedEverywhere(above);
        }
        int[] wrong = {0, 9, 10, 16, 64};
        for (int n : wrong) {
            refused("put(.., " + n + ")", desk -> desk.put(0x4142434445464748L, n) ? 1 : 0, 0);
        }
        refused("value(2, 10)", desk -> desk.value(2, 10), -10);
        refused("value(2, 100001)", desk -> desk.value(2, 100001), -10);
        refused("count(5)", desk -> desk.count(5), -1);
        moreThanTheTapeHolds();
        Check.end();
    }

    /** Numbers that are below or above what every call takes. */
    private static void refusedEverywhere(int number) {
        refused("put(.., " + number + ")", desk -> desk.put(0x4142434445464748L, number) ? 1 : 0, 0);
        refused("define(" + number + ")", desk -> desk.define(number), -10);
        refused("value(" + number + ", 10)", desk -> desk.value(number, 10), -10);
        refused("count(" + number + ")", desk -> desk.count(number), -1);
        refused("text(" + number + ", 0)", desk -> desk.text(number, 0), -1);
        if (number < 0) {
            refused("characters(" + number + ")", desk -> desk.characters(number), -1);
            refused("text(0, " + number + ")", desk -> desk.text(0, number), -1);
        }
        if (number < 0 || number > 100000) {
            refused("value(0, " + number + ")", desk -> desk.value(0, number), -10);
            refused("value(1, " + number + ")", desk -> desk.value(1, number), -10);
        }
    }

    /** Only some scenes leave too little room; there the put is refused whole. */
    private static void moreThanTheTapeHolds() {
        int met = 0;
        for (Named scene : SCENES) {
            for (int n = 1; n <= 8; n++) {
                ValueDesk probe = new ValueDesk();
                scene.call.on(probe);
                if (probe.count(0) + n > 200) {
                    met++;
                    int bytes = n;
                    refusedIn(scene, "put of " + n + " more", desk -> desk.put(-1, bytes) ? 1 : 0, 0);
                }
            }
        }
        Check.due("puts beyond the tape's room", met, 1 + 7 + 8);
    }

    private static void refused(String name, Call call, long due) {
        for (Named scene : SCENES) {
            refusedIn(scene, name, call, due);
        }
    }

    private static void refusedIn(Named scene, String name, Call call, long due) {
        for (Named next : WHAT_FOLLOWS) {
            ValueDesk plain = new ValueDesk();
            ValueDesk twin = new ValueDesk();
            scene.call.on(plain);
            scene.call.on(twin);
            String where = name + " behind " + scene.name;
            Check.due(where, call.on(twin), due);
            Check.due(next.name + " behind " + where, next.call.on(twin), next.call.on(plain));
            Check.due("what is told behind " + where + " and " + next.name, Told.of(twin), Told.of(plain));
        }
    }

    private static Named named(String name, Call call) {
        return new Named(name, call);
    }

    private static long with(ValueDesk desk, String tape) {
        Check.put(desk, tape);
        return 0;
    }

    private static void texts(ValueDesk desk) {
        Check.define(desk, 'a', "x y");
        Check.define(desk, 'b', "");
        Check.define(desk, 'c', "[&a;&b;]");
    }
}
