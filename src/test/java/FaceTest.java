import java.lang.reflect.Constructor;
import java.lang.reflect.Field;
import java.lang.reflect.Method;
import java.lang.reflect.Modifier;
import java.util.Arrays;
import java.util.Set;
import java.util.TreeSet;

/** The public face of the document, and what LANGUAGE.md's rules 1, 5 and 11 say of members. */
public final class FaceTest {
    private static final String NSE = " throws java.util.NoSuchElementException";
    private static final String ISE = "java.lang.IllegalStateException";
    private static final String IAE = "java.lang.IllegalArgumentException";
    private static final String[] FACE = {
        "public boolean StackGuard.type(char)",
        "public int StackGuard.keep(int)" + NSE,
        "public int StackGuard.written(int,int)" + NSE,
        "public boolean StackGuard.takesIn(int,int)" + NSE,
        "public int StackGuard.grant(int,int)" + NSE + "," + ISE,
        "public int StackGuard.revoke(int,int)" + NSE + "," + IAE,
        "public boolean StackGuard.may(int,int)" + NSE,
        "public int StackGuard.enter(int,int)" + NSE + "," + ISE,
        "public int StackGuard.leave(int)" + NSE + "," + ISE,
        "public void StackGuard.guard(int,int,int)" + NSE + "," + ISE,
        "public int StackGuard.walk(int,int)" + NSE,
        "public int StackGuard.capture(int)" + NSE + "," + ISE,
        "public int StackGuard.combine(int,int)" + NSE + "," + IAE,
        "public int StackGuard.spawn(int)" + NSE + "," + ISE,
        "public int StackGuard.end(int)" + NSE + "," + IAE,
        "public int StackGuard.check(int,int)" + NSE + "," + ISE,
        "public int StackGuard.allowed(int)" + NSE,
        "public int StackGuard.note(int,int) throws " + IAE,
        "public float StackGuard.idle(int)" + NSE,
    };

    public static void main(String[] args) {
        Expect.same("class", "public final", Modifier.toString(StackGuard.class.getModifiers()));
        publicMembers();
        privateMembers();
        classesInside();
        Expect.finish();
    }

    private static void publicMembers() {
        Set<String> methods = new TreeSet<>();
        Set<String> others = new TreeSet<>();
        for (Method method : StackGuard.class.getDeclaredMethods()) {
            if (!Modifier.isPrivate(method.getModifiers())) {
                methods.add(method.toString());
            }
        }
        for (Constructor<?> constructor : StackGuard.class.getDeclaredConstructors()) {
            others.add(constructor.toString());
        }
        for (Field field : StackGuard.class.getDeclaredFields()) {
            if (!Modifier.isPrivate(field.getModifiers())) {
                others.add(field.toString());
            }
        }
        Expect.same("methods", new TreeSet<>(Arrays.asList(FACE)), methods);
        Expect.same("other members", "[public StackGuard(), public static final int StackGuard.NONE]", others.toString());
    }

    private static void privateMembers() {
        Set<String> face = new TreeSet<>();
        for (Method method : StackGuard.class.getMethods()) {
            face.add(method.getName());
        }
        for (Method method : StackGuard.class.getDeclaredMethods()) {
            boolean isPrivate = Modifier.isPrivate(method.getModifiers());
            Expect.same(method + " bears a public name", false, isPrivate && face.contains(method.getName()));
        }
        members(StackGuard.class);
    }

    private static void classesInside() {
        Class<?>[] inside = StackGuard.class.getDeclaredClasses();
        Expect.same("at most twelve classes", true, inside.length < 12);
        for (Class<?> each : inside) {
            int modifiers = each.getModifiers();
            Expect.same(each + " is static and hidden", true, Modifier.isStatic(modifiers)
                    && !Modifier.isPublic(modifiers) && !Modifier.isProtected(modifiers));
            members(each);
        }
    }

    private static void members(Class<?> each) {
        int fields = 0;
        for (Field field : each.getDeclaredFields()) {
            boolean isStatic = Modifier.isStatic(field.getModifiers());
            fields += isStatic ? 0 : 1;
            Expect.same(field + " is static and not final", false,
                    isStatic && !Modifier.isFinal(field.getModifiers()));
        }
        Expect.same(each + " has at most twenty fields", true, fields <= 20);
        for (Method method : each.getDeclaredMethods()) {
            Expect.same(method + " has at most seven parameters", true, method.getParameterCount() <= 7);
        }
    }
}
