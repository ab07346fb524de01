import java.lang.reflect.Constructor;
import java.lang.reflect.Field;
import java.lang.reflect.Method;
import java.lang.reflect.Modifier;
import java.util.Set;
import java.util.TreeSet;

/** The face is the document's, and no more (LANGUAGE.md, rules 1, 5 and 11). */
public final class FaceTest {
    private static final Set<String> METHODS = Set.of(
        "int track(int,int,int,int,int,int)", "int read(int,int,int)", "int hold(int,boolean)",
        "long cross(int,int,int,int)", "int crosses(int,int)", "int difference(int,int)", "int net(int)",
        "long off(int,int)", "long before()", "long behind()", "int loop(int,int,int)", "int tone(int)",
        "long seen(int,int,int)", "int apart(int,int,int,int)", "long box(int,int,int,int)", "int count(int)");

    public static void main(String[] args) {
        Checks checks = new Checks("FaceTest");
        Class<?> face = TrackCrossings.class;
        int kind = face.getModifiers();
        checks.holds("the class is public and final", Modifier.isPublic(kind) && Modifier.isFinal(kind));
        checkMethods(checks, face);
        checkFields(checks, face);
        Constructor<?>[] made = face.getDeclaredConstructors();
        checks.holds("one public constructor without parameters",
            made.length == 1 && Modifier.isPublic(made[0].getModifiers()) && made[0].getParameterCount() == 0);
        for (Class<?> inside : face.getDeclaredClasses()) {
            int how = inside.getModifiers();
            checks.holds(inside + " is static and not for others",
                Modifier.isStatic(how) && !Modifier.isPublic(how) && !Modifier.isProtected(how));
            checks.holds(inside + " has at most twenty fields", inside.getDeclaredFields().length <= 20);
        }
        checks.holds("at most twelve classes", face.getDeclaredClasses().length < 12);
        checks.end();
    }

    private static void checkMethods(Checks checks, Class<?> face) {
        Set<String> seen = new TreeSet<>();
        Set<String> names = new TreeSet<>();
        for (Method method : face.getDeclaredMethods()) {
            if (!Modifier.isPrivate(method.getModifiers())) {
                seen.add(written(method));
                names.add(method.getName());
            }
        }
        checks.holds("the methods are the document's: " + seen, seen.equals(METHODS));
        for (Method method : face.getDeclaredMethods()) {
            checks.holds("the private " + method.getName() + " has a name of its own",
                !Modifier.isPrivate(method.getModifiers()) || !names.contains(method.getName()));
        }
    }

    private static String written(Method method) {
        StringBuilder text = new StringBuilder();
        for (Class<?> type : method.getParameterTypes()) {
            text.append(text.length() == 0 ? "" : ",").append(type.getName());
        }
        return method.getReturnType().getName() + " " + method.getName() + "(" + text + ")";
    }

    private static void checkFields(Checks checks, Class<?> face) {
        Set<String> seen = new TreeSet<>();
        for (Field field : face.getDeclaredFields()) {
            int how = field.getModifiers();
            if (!Modifier.isPrivate(how)) {
                seen.add(field.getName());
                checks.holds(field + " is a constant",
                    Modifier.isPublic(how) && Modifier.isStatic(how) && Modifier.isFinal(how)
                        && field.getType() == int.class);
            }
            checks.holds(field + " is final, if it is static", !Modifier.isStatic(how) || Modifier.isFinal(how));
        }
        checks.holds("the constants are the document's", seen.equals(Set.of("BAD", "NO", "FULL", "NONE")));
        checks.due("BAD", TrackCrossings.BAD, -1);
        checks.due("NO", TrackCrossings.NO, -2);
        checks.due("FULL", TrackCrossings.FULL, -3);
        checks.due("NONE", TrackCrossings.NONE, -4);
    }
}
