/** Promise 1. */
public final class NewObjectTest {
    public static void main(String[] args) {
        ValueDesk desk = new ValueDesk();
        for (int what = 0; what <= 4; what++) {
            Check.due("count(" + what + ")", desk.count(what), 0);
        }
        for (int e = 0; e < 26; e++) {
            Check.due("text(" + e + ", 0)", desk.text(e, 0), -1);
        }
        Check.due("characters(0)", desk.characters(0), 0);
        Check.due("place()", desk.place(), -1);
        Check.due("clear()", desk.clear(), 0);
        Check.due("value of the empty tape", desk.value(0, 0), 0);
        objectsAreApart();
        Check.end();
    }

    private static void objectsAreApart() {
        ValueDesk one = Check.desk("a=xyz");
        Check.valueIs(one, "&a;", 0, "xyz");
        Check.put(one, "left");
        ValueDesk other = new ValueDesk();
        Check.due("the other's count(0)", other.count(0), 0);
        Check.due("the other's count(1)", other.count(1), 0);
        Check.due("the other's count(2)", other.count(2), 0);
        Check.due("the other's text(0, 0)", other.text(0, 0), -1);
    }
}
