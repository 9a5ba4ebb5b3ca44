import java.lang.reflect.Constructor;
import java.lang.reflect.Field;
import java.lang.reflect.Method;
import java.lang.reflect.Modifier;
import java.util.TreeSet;

/** The public face, and rules 1 and 5 of LANGUAGE.md as far as the compiled class tells. */
public final class FaceTest {
    private static final String FACE = "[boolean put(long,int), int clear(), int count(int), int define(int), int place(), "
        + "int value(int,int), long characters(int), long text(int,int)]";

    public static void main(String[] args) {
        Class<?> desk = ValueDesk.class;
        Check.yes("the class is public", Modifier.isPublic(desk.getModifiers()));
        Check.yes("the class is final", Modifier.isFinal(desk.getModifiers()));
        Constructor<?>[] makers = desk.getDeclaredConstructors();
        Check.due("constructors", makers.length, 1);
        Check.yes("the constructor is public", Modifier.isPublic(makers[0].getModifiers()));
        Check.due("its parameters", makers[0].getParameterCount(), 0);
        methods(desk);
        fields(desk);
        for (Class<?> inside : desk.getDeclaredClasses()) {
            Check.yes(inside + " is static", Modifier.isStatic(inside.getModifiers()));
            Check.no(inside + " is public", Modifier.isPublic(inside.getModifiers()));
            fields(inside);
        }
        Check.end();
    }

    private static void methods(Class<?> desk) {
        TreeSet<String> face = new TreeSet<>();
        TreeSet<String> names = new TreeSet<>();
        for (Method each : desk.getDeclaredMethods()) {
            if (!Modifier.isPrivate(each.getModifiers())) {
                String told = each.toString().replace("public ", "").replace("ValueDesk.", "");
                face.add(told);
                names.add(each.getName());
            }
        }
        Check.due("the face", face.toString(), FACE);
        for (Method each : desk.getDeclaredMethods()) {
            if (Modifier.isPrivate(each.getModifiers())) {
                Check.no(each.getName() + " bears a public method's name", names.contains(each.getName()));
            }
        }
    }

    private static void fields(Class<?> of) {
        for (Field each : of.getDeclaredFields()) {
            int bits = each.getModifiers();
            Check.yes(each + " is private", Modifier.isPrivate(bits));
            Check.no(each + " is static and not final", Modifier.isStatic(bits) && !Modifier.isFinal(bits));
        }
    }
}
