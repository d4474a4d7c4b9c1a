import java.lang.reflect.Constructor;
import java.lang.reflect.Field;
import java.lang.reflect.Method;
import java.lang.reflect.Modifier;
import java.util.ArrayList;
import java.util.Collections;
import java.util.List;

/** The public face is the document's, and nothing beside it can be seen from outside. */
public final class FaceTest {

    private static final String BOUNDS = " throws IndexOutOfBoundsException";

    private static final List<String> METHODS = List.of(
            "public int begin(int) throws IllegalArgumentException",
            "public int link(int,int)" + BOUNDS,
            "public int place(int,boolean)" + BOUNDS,
            "public boolean isReached(int,boolean)" + BOUNDS,
            "public int dominator(int,boolean)" + BOUNDS,
            "public boolean dominates(int,int,boolean)" + BOUNDS,
            "public int level(int)" + BOUNDS,
            "public long frontier(int)" + BOUNDS,
            "public long spread(long)",
            "public long controls(int)" + BOUNDS,
            "public boolean isBack(int,int)" + BOUNDS,
            "public long loop(int)" + BOUNDS,
            "public int loops()",
            "public int depth(int)" + BOUNDS,
            "public int header(int,boolean)" + BOUNDS,
            "public boolean isReducible()",
            "public int order(int,boolean)" + BOUNDS,
            "public int told(int)");

    private FaceTest() {
    }

    public static void main(String[] args) {
        theClass();
        theMethods();
        theFields();
        theClassesInside();
        Check.end();
    }

    private static void theClass() {
        Check.due("modifiers of FlowNest", FlowNest.class.getModifiers(), Modifier.PUBLIC | Modifier.FINAL);
        Constructor<?>[] constructors = FlowNest.class.getDeclaredConstructors();
        Check.due("constructors", constructors.length, 1);
        Check.due("FlowNest() is public", constructors[0].getModifiers(), Modifier.PUBLIC);
        Check.due("FlowNest() takes nothing", constructors[0].getParameterCount(), 0);
    }

    private static void theMethods() {
        List<String> seen = new ArrayList<>();
        List<String> shown = new ArrayList<>();
        List<String> hidden = new ArrayList<>();
        for (Method method : FlowNest.class.getDeclaredMethods()) {
            if (Modifier.isPrivate(method.getModifiers())) {
                hidden.add(method.getName());
            } else if (!method.isSynthetic()) {
                shown.add(method.getName());
                seen.add(method.toGenericString().replace("FlowNest.", "").replace("java.lang.", ""));
            }
        }
        List<String> due = new ArrayList<>(METHODS);
        Collections.sort(due);
        Collections.sort(seen);
        Check.due("methods " + seen, seen.equals(due), true);
        Check.due("a private method with a public name", Collections.disjoint(hidden, shown), true);
    }

    private static void theFields() {
        for (Field field : FlowNest.class.getDeclaredFields()) {
            int modifiers = field.getModifiers();
            boolean constant = field.getName().equals("NONE");
            int due = Modifier.PUBLIC | Modifier.STATIC | Modifier.FINAL;
            Check.due("modifiers of " + field, constant ? modifiers == due : Modifier.isPrivate(modifiers), true);
            Check.due(field + " is final if static", Modifier.isStatic(modifiers) && !Modifier.isFinal(modifiers), false);
        }
        Check.due("NONE", FlowNest.NONE, -1);
    }

    private static void theClassesInside() {
        for (Class<?> inside : FlowNest.class.getDeclaredClasses()) {
            int modifiers = inside.getModifiers();
            Check.due(inside + " is static", Modifier.isStatic(modifiers), true);
            Check.due(inside + " is seen", Modifier.isPublic(modifiers) || Modifier.isProtected(modifiers), false);
        }
    }
}
