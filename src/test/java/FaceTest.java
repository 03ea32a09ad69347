import java.lang.reflect.Constructor;
import java.lang.reflect.Field;
import java.lang.reflect.Method;
import java.lang.reflect.Modifier;
import java.util.Arrays;
import java.util.TreeSet;

/** The face of the class: what the document names, and nothing else that isn't private. */
public final class FaceTest {
    private static final String[] METHODS = {"int set(int,int,int)", "int learner(int,int)", "int told(int,int)",
        "int asks(int,int,int)", "int feed(int)", "int text()", "int force(int)", "int drive(int,int,int)",
        "int night()", "int best(int,int)", "int hours(int,int,int,int)", "int takes(int,int,int)",
        "int late(int,int)", "int gap(int,int)", "int faded(int,int)", "long test(int,int,int)",
        "int tells(int,int,int,int)", "int film(int,int,int,int)", "int drawn(int,int)", "long chance(int,int,int,int)",
        "int image()", "int back()", "int count(int)", "int sheet(int,int,int)", "int cell(int,int,int)",
        "int copy(int,int,int,int,int)", "int learners(int,int,int,int)", "int taken(int,int)"};
    private static final String[] FIELDS = {"int NONE", "int BAD", "int STATE", "int FULL", "long NO"};

    public static void main(String[] args) {
        Due due = new Due();
        Class<?> face = FootOnTheOtherPedal.class;
        due.holds("public and final", (face.getModifiers() & (Modifier.PUBLIC | Modifier.FINAL)) == 17);
        TreeSet<String> methods = new TreeSet<>();
        TreeSet<String> names = new TreeSet<>();
        for (Method method : face.getDeclaredMethods()) {
            if (!Modifier.isPrivate(method.getModifiers())) {
                due.is(method + ": public alone", method.getModifiers(), Modifier.PUBLIC);
                methods.add(method.getReturnType() + " " + method.getName() + types(method.getParameterTypes()));
                names.add(method.getName());
            }
        }
        due.holds("methods: " + methods, methods.equals(new TreeSet<>(Arrays.asList(METHODS))));
        TreeSet<String> fields = new TreeSet<>();
        for (Field field : face.getDeclaredFields()) {
            if (!Modifier.isPrivate(field.getModifiers())) {
                due.is(field + ": public static final", field.getModifiers(), 25);
                fields.add(field.getType() + " " + field.getName());
            }
        }
        due.holds("constants: " + fields, fields.equals(new TreeSet<>(Arrays.asList(FIELDS))));
        Constructor<?>[] constructors = face.getDeclaredConstructors();
        due.holds("one public constructor", constructors.length == 1
            && constructors[0].getModifiers() == Modifier.PUBLIC && constructors[0].getParameterCount() == 0);
        due.is("NONE", FootOnTheOtherPedal.NONE, -1);
        due.is("BAD", FootOnTheOtherPedal.BAD, -2);
        due.is("STATE", FootOnTheOtherPedal.STATE, -3);
        due.is("FULL", FootOnTheOtherPedal.FULL, -4);
        due.is("NO", FootOnTheOtherPedal.NO, -4611686018427387904L);
        inside(due, names);
        due.end();
    }

    private static String types(Class<?>[] types) {
        StringBuilder all = new StringBuilder("(");
        for (Class<?> type : types) {
            all.append(all.length() > 1 ? "," : "").append(type);
        }
        return all.append(')').toString();
    }

    /** Classes inside, and the names of what is private. */
    private static void inside(Due due, TreeSet<String> names) {
        Class<?>[] classes = FootOnTheOtherPedal.class.getDeclaredClasses();
        due.holds("at most twelve classes", classes.length < 12);
        for (Class<?> one : classes) {
            due.holds(one + " is static", Modifier.isStatic(one.getModifiers()));
            due.holds(one + " isn't public, protected", (one.getModifiers() & (Modifier.PUBLIC | Modifier.PROTECTED)) == 0);
            for (Method method : one.getDeclaredMethods()) {
                due.holds(method + " has its own name", !names.contains(method.getName()));
                due.holds(method + " has seven parameters at most", method.getParameterCount() <= 7);
            }
        }
        for (Method method : FootOnTheOtherPedal.class.getDeclaredMethods()) {
            due.holds(method + " has its own name",
                !Modifier.isPrivate(method.getModifiers()) || !names.contains(method.getName()));
        }
    }
}
