import java.lang.reflect.Constructor;
import java.lang.reflect.Field;
import java.lang.reflect.Method;
import java.lang.reflect.Modifier;
import java.util.Arrays;
import java.util.Set;
import java.util.TreeSet;

/** The public face: every constant, constructor and method of the document, and no other visible member. */
public final class FaceTest {
    private static final Check CHECK = new Check("FaceTest");
    private static final String[] METHODS = {
        "int leaves(int)", "int row(int)", "int lay(int, int, int)", "int tear(int)",
        "int copy(int, int, int, int, int)", "int unlike(int, int)", "int mean(int)", "int make(int, int)",
        "int drop(int)", "int told(int, int, int)", "int mark(int, int, int)", "int turn(int, int)",
        "int hold(int, int, boolean)", "int order(int, int)", "int price(int)", "int best(int)",
        "int crossings(int, int)", "int face(int, int)", "int faceBoth(int, int)", "int fewest(int, int)",
        "int keep(int)", "int near(int)", "int cut(int, int)", "int group(int)", "int same(int, int, int)",
        "int axes(int)", "int worth(int, int, int)", "int laying()", "int axis(int)", "int asked()",
        "int count(int)", "int finding()", "int findings(int)", "long digest()"};

    public static void main(String[] args) {
        int modifiers = LeafOrder.class.getModifiers();
        CHECK.holds("public and final", Modifier.isPublic(modifiers) && Modifier.isFinal(modifiers));
        CHECK.due("BAD", LeafOrder.BAD, -1);
        CHECK.due("FULL", LeafOrder.FULL, -2);
        CHECK.due("FINDING", LeafOrder.FINDING, -3);
        CHECK.due("STATE", LeafOrder.STATE, -4);
        CHECK.due("NONE", LeafOrder.NONE, -9);
        constants();
        methods();
        classes();
        CHECK.finish();
    }

    private static void constants() {
        Set<String> names = new TreeSet<>();
        for (Field field : LeafOrder.class.getDeclaredFields()) {
            if (!Modifier.isPrivate(field.getModifiers())) {
                names.add(Modifier.toString(field.getModifiers()) + " " + field.getType() + " " + field.getName());
            }
        }
        Set<String> want = new TreeSet<>();
        for (String name : new String[] {"BAD", "FULL", "FINDING", "STATE", "NONE"}) {
            want.add("public static final int " + name);
        }
        CHECK.holds("constants " + names, names.equals(want));
        Constructor<?>[] constructors = LeafOrder.class.getDeclaredConstructors();
        CHECK.holds("one public constructor without parameters", constructors.length == 1
            && constructors[0].getParameterCount() == 0 && Modifier.isPublic(constructors[0].getModifiers()));
    }

    private static void methods() {
        Set<String> visible = new TreeSet<>();
        Set<String> names = new TreeSet<>();
        for (Method method : LeafOrder.class.getDeclaredMethods()) {
            if (!Modifier.isPrivate(method.getModifiers())) {
                String parameters = Arrays.toString(method.getParameterTypes());
                visible.add(method.getReturnType() + " " + method.getName()
                    + "(" + parameters.substring(1, parameters.length() - 1) + ")");
                names.add(method.getName());
                CHECK.due(method.getName() + " is public alone", method.getModifiers(), Modifier.PUBLIC);
            }
        }
        CHECK.holds("methods " + visible, visible.equals(new TreeSet<>(Arrays.asList(METHODS))));
        for (Method method : LeafOrder.class.getDeclaredMethods()) {
            if (Modifier.isPrivate(method.getModifiers())) {
                CHECK.holds(method.getName() + " bears no public name", !names.contains(method.getName()));
            }
        }
    }

    private static void classes() {
        for (Class<?> inside : LeafOrder.class.getDeclaredClasses()) {
            int modifiers = inside.getModifiers();
            CHECK.holds(inside + " is static", Modifier.isStatic(modifiers));
            CHECK.holds(inside + " is not for others", !Modifier.isPublic(modifiers) && !Modifier.isProtected(modifiers));
        }
    }
}
