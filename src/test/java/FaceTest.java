import java.lang.reflect.Constructor;
import java.lang.reflect.Field;
import java.lang.reflect.Method;
import java.lang.reflect.Modifier;
import java.util.ArrayList;
import java.util.List;
import java.util.Set;
import java.util.TreeSet;

/** The public face of the document, no less and no more, and rule 1 of LANGUAGE.md. */
public final class FaceTest {
    private static final String FACE = "all(int,int)int again(int)int bear(int)int bears(int)int behind(int,int)int "
            + "book(int,int,int)int climb(int,int,int,int,int,int)long creed(int,int)int done()int downs(int)int "
            + "fault()int fell(int)int forget()int image(int)int judge(int)int kin(int,int,boolean)int leave(int)int "
            + "meet(int,int,int,int)int next(int)int one(int,int,int)int reach(int,int)int restore(int)int say(int)int "
            + "seen(int,int)int settle(int,int)int stair(int,int,int,int)int told(int)int wall(int,int)int "
            + "ways(int,int,int,int)int wedges(int,int,int)int wipe()int";

    public static void main(String[] args) {
        Class<?> face = PlumbCreeds.class;
        Due.is("modifiers of the class", face.getModifiers(), Modifier.PUBLIC | Modifier.FINAL);
        testMethods(face);
        testConstructors(face);
        testFields(face);
        testNestedNames(face);
        testFieldsAreFew(face);
        Due.end("FaceTest");
    }

    private static void testMethods(Class<?> face) {
        Set<String> seen = new TreeSet<>();
        for (Method method : face.getDeclaredMethods()) {
            if (Modifier.isPublic(method.getModifiers())) {
                Due.isTrue(method + " is not static", !Modifier.isStatic(method.getModifiers()));
                seen.add(shapeOf(method));
            } else {
                Due.isTrue(method + " is private", Modifier.isPrivate(method.getModifiers()));
                Due.isTrue(method + " bears no public name", !isFaceName(method.getName()));
            }
        }
        Set<String> wanted = new TreeSet<>(Set.of(FACE.split(" ")));
        Due.isTrue("public methods " + seen + " are " + wanted, seen.equals(wanted));
    }

    private static String shapeOf(Method method) {
        StringBuilder shape = new StringBuilder(method.getName()).append('(');
        for (Class<?> type : method.getParameterTypes()) {
            shape.append(shape.charAt(shape.length() - 1) == '(' ? "" : ",").append(type.getName());
        }
        return shape.append(')').append(method.getReturnType().getName()).toString();
    }

    private static boolean isFaceName(String name) {
        return (" " + FACE).contains(" " + name + "(");
    }

    private static void testConstructors(Class<?> face) {
        Constructor<?>[] all = face.getDeclaredConstructors();
        Due.is("constructors", all.length, 1);
        Due.isTrue("the constructor is public", Modifier.isPublic(all[0].getModifiers()));
        Due.is("parameters of the constructor", all[0].getParameterCount(), 0);
    }

    private static void testFields(Class<?> face) {
        Set<String> seen = new TreeSet<>();
        for (Field field : face.getDeclaredFields()) {
            if (!Modifier.isPrivate(field.getModifiers())) {
                seen.add(field.getType() + " " + field.getName());
            }
        }
        Set<String> wanted = new TreeSet<>(Set.of("int NONE", "int UNKNOWN", "int OUTSIDE", "int STATE", "int FULL",
                "int NO", "long LOST"));
        Due.isTrue("open fields " + seen + " are " + wanted, seen.equals(wanted));
        Due.is("NONE", PlumbCreeds.NONE, -6);
        Due.is("UNKNOWN", PlumbCreeds.UNKNOWN, -1);
        Due.is("OUTSIDE", PlumbCreeds.OUTSIDE, -2);
        Due.is("STATE", PlumbCreeds.STATE, -3);
        Due.is("FULL", PlumbCreeds.FULL, -4);
        Due.is("NO", PlumbCreeds.NO, -5);
        Due.is("LOST", PlumbCreeds.LOST, -1000000000000000000L);
    }

    private static void testNestedNames(Class<?> face) {
        for (Class<?> nested : face.getDeclaredClasses()) {
            Due.isTrue(nested + " is not public", !Modifier.isPublic(nested.getModifiers()));
            Due.isTrue(nested + " is static", Modifier.isStatic(nested.getModifiers()));
            for (Method method : nested.getDeclaredMethods()) {
                Due.isTrue(method + " bears no public name", !isFaceName(method.getName()));
            }
        }
    }

    /** Rules 5 and 11: what is static is final, and a class has twenty fields at most beside its constants. */
    private static void testFieldsAreFew(Class<?> face) {
        List<Class<?>> all = new ArrayList<>(List.of(face.getDeclaredClasses()));
        all.add(face);
        for (Class<?> each : all) {
            int fields = 0;
            for (Field field : each.getDeclaredFields()) {
                boolean isStatic = Modifier.isStatic(field.getModifiers());
                fields += isStatic ? 0 : 1;
                Due.isTrue(field + " is final, if it is static", !isStatic || Modifier.isFinal(field.getModifiers()));
            }
            Due.isTrue(each + " has twenty fields at most: " + fields, fields <= 20);
        }
    }
}
