import java.lang.reflect.Constructor;
import java.lang.reflect.Field;
import java.lang.reflect.Method;
import java.lang.reflect.Modifier;
import java.util.Arrays;
import java.util.Set;
import java.util.TreeSet;
import java.util.stream.Collectors;

/** The public face: the document's constant, constructor and methods, and nothing more that can be seen. */
public final class FaceTest {
    private static final Checks C = new Checks("FaceTest");
    private static final String[] FACE = {
        "boolean minute(int)", "int word(int)", "boolean put(int,int)", "int within(int,int)",
        "int picture(int,int,long,int)", "boolean caption(int,int,boolean)", "int has(int,int,int,boolean)",
        "int search(int,int,boolean)", "int found(int,int,boolean,int)", "int far(int,int)", "boolean limit(int)",
        "int set(int,int)", "boolean leave(int,boolean)", "boolean embargo(int,int)", "int known(int,int,boolean)",
        "int feed(int,int,int,int,int)", "int end(int)", "int text(int)", "int fault(int)",
        "int why(int,int,int,int,int)", "int by(int,int,int,int,int)", "boolean rate(int,int)",
        "int sale(int,int,int,int,int,int)", "boolean strike(int)", "int saleOf(int,int)", "long got(int)",
        "int print(int,int,int,int)", "int printed(int)", "int about(int)"};

    public static void main(String[] args) {
        Class<?> face = PictureAgency.class;
        C.yes("public final", Modifier.isPublic(face.getModifiers()) && Modifier.isFinal(face.getModifiers()));
        Set<String> seen = new TreeSet<>();
        Set<String> names = new TreeSet<>();
        for (Method m : face.getDeclaredMethods()) {
            if (Modifier.isPublic(m.getModifiers())) {
                seen.add(told(m));
                names.add(m.getName());
                C.no(m + " is static", Modifier.isStatic(m.getModifiers()));
            } else {
                C.yes(m + " is private", Modifier.isPrivate(m.getModifiers()));
            }
        }
        C.yes("the methods are those of the document: " + seen, seen.equals(new TreeSet<>(Arrays.asList(FACE))));
        constructorsAndFields(face);
        for (Method m : face.getDeclaredMethods()) {
            C.no(m + " bears a public name", Modifier.isPrivate(m.getModifiers()) && names.contains(m.getName()));
        }
        C.finish();
    }

    private static void constructorsAndFields(Class<?> face) {
        C.due("constructors", face.getDeclaredConstructors().length, 1);
        for (Constructor<?> c : face.getDeclaredConstructors()) {
            C.yes("public, without parameters", Modifier.isPublic(c.getModifiers()) && c.getParameterCount() == 0);
        }
        for (Field f : face.getDeclaredFields()) {
            boolean isNone = f.getName().equals("NONE");
            C.yes(f + " is private", isNone || Modifier.isPrivate(f.getModifiers()));
            C.yes(f + " is final if static", !Modifier.isStatic(f.getModifiers())
                    || Modifier.isFinal(f.getModifiers()));
        }
        for (Class<?> inside : face.getDeclaredClasses()) {
            C.yes(inside + " is static", Modifier.isStatic(inside.getModifiers()));
            C.no(inside + " is public", Modifier.isPublic(inside.getModifiers()));
        }
        C.yes("at most twelve classes", face.getDeclaredClasses().length < 12);
    }

    private static String told(Method m) {
        String types = Arrays.stream(m.getParameterTypes()).map(Class::getName).collect(Collectors.joining(","));
        return m.getReturnType().getName() + " " + m.getName() + "(" + types + ")";
    }
}
