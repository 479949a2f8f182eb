import java.lang.reflect.Constructor;
import java.lang.reflect.Field;
import java.lang.reflect.Method;
import java.lang.reflect.Modifier;
import java.util.Set;
import java.util.TreeSet;

/** The public face is the document's, and nothing else is seen of the class. */
public final class FaceTest {
    private static final String METHODS = "int coast(int,int,int,int) int sky(int) int shade(int) int ofLamp(int,int) "
        + "int cloud(int,int) int age(int) int move(int,int,int) int undo(int) int where(int,int) int gives(int,int) "
        + "int falls(int,int) int light(int,int) int dark(int,int,int) int set(int,int,int) int show(int,int,int) "
        + "int moves(int,int,int,int,int,int) int worth(int) int reading(int,int,int) int back(int) int stood(int) "
        + "int kinds(int) int ages() int clouds(int) long odds(int,int,int,int) int sheet(int,int,int) int lose(int) "
        + "int put(int,int,int) long cell(int,int,int) int copy(int,int,int,int,int) int tell(int) int see(int) "
        + "int as(int,int) int trace() int fault() int many(int)";

    public static void main(String[] args) {
        Due due = new Due("FaceTest");
        Class<?> face = OldLamps.class;
        due.holds("public and final", Modifier.isPublic(face.getModifiers()) && Modifier.isFinal(face.getModifiers()));
        due.holds("extends nothing", face.getSuperclass() == Object.class && face.getInterfaces().length == 0);
        due.holds("no package", face.getPackageName().isEmpty());
        methods(due, face);
        constants(due, face);
        inside(due, face);
        due.end();
    }

    private static void methods(Due due, Class<?> face) {
        Set<String> seen = new TreeSet<>();
        Set<String> names = new TreeSet<>();
        for (Method method : face.getDeclaredMethods()) {
            if (Modifier.isPrivate(method.getModifiers())) continue;
            due.holds(method + " is public, not static", method.getModifiers() == Modifier.PUBLIC);
            StringBuilder told = new StringBuilder(method.getReturnType() + method.getName() + "(");
            for (Class<?> type : method.getParameterTypes()) told.append(type).append(",");
            seen.add(told.toString().replaceAll(",$", "") + ")");
            names.add(method.getName());
        }
        Set<String> want = new TreeSet<>();
        for (String method : METHODS.split("\\) ?")) want.add(method.replace(" ", "") + ")");
        due.holds("the methods are as told: " + seen, seen.equals(want));
        for (Class<?> type : allClasses(face)) {
            for (Method method : type.getDeclaredMethods()) {
                boolean own = type == face && !Modifier.isPrivate(method.getModifiers());
                due.holds(method + " bears no public name", own || !names.contains(method.getName()));
                due.holds(method + " takes seven at most", method.getParameterCount() <= 7);
            }
        }
        Constructor<?>[] constructors = face.getDeclaredConstructors();
        due.holds("one public constructor", constructors.length == 1 && constructors[0].getParameterCount() == 0
            && Modifier.isPublic(constructors[0].getModifiers()));
    }

    private static void constants(Due due, Class<?> face) {
        due.is("UNKNOWN", OldLamps.UNKNOWN, -1);
        due.is("OUTSIDE", OldLamps.OUTSIDE, -2);
        due.is("STATE", OldLamps.STATE, -3);
        due.is("FULL", OldLamps.FULL, -4);
        due.is("NONE", OldLamps.NONE, -9);
        due.is("LOST", OldLamps.LOST, Long.MIN_VALUE);
        Set<String> seen = new TreeSet<>();
        for (Field field : face.getDeclaredFields()) {
            if (Modifier.isPrivate(field.getModifiers())) continue;
            seen.add(field.getName());
            due.holds(field + " is a constant",
                field.getModifiers() == (Modifier.PUBLIC | Modifier.STATIC | Modifier.FINAL));
        }
        due.holds("the constants are as told: " + seen,
            seen.equals(Set.of("UNKNOWN", "OUTSIDE", "STATE", "FULL", "NONE", "LOST")));
    }

    private static void inside(Due due, Class<?> face) {
        Class<?>[] all = allClasses(face);
        due.holds("twelve classes at most", all.length <= 12);
        for (Class<?> type : all) {
            int fields = 0;
            for (Field field : type.getDeclaredFields()) {
                if (Modifier.isStatic(field.getModifiers())) {
                    due.holds(field + " is final", Modifier.isFinal(field.getModifiers()));
                } else {
                    fields++;
                }
            }
            due.holds(type + " has some twenty fields at most", fields <= 20);
            if (type == face) continue;
            due.holds(type + " is static", Modifier.isStatic(type.getModifiers()));
            due.holds(type + " is not seen outside",
                !Modifier.isPublic(type.getModifiers()) && !Modifier.isProtected(type.getModifiers()));
        }
    }

    private static Class<?>[] allClasses(Class<?> face) {
        Class<?>[] inside = face.getDeclaredClasses();
        Class<?>[] all = new Class<?>[inside.length + 1];
        all[0] = face;
        System.arraycopy(inside, 0, all, 1, inside.length);
        return all;
    }
}
