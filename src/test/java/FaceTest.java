import java.lang.reflect.Constructor;
import java.lang.reflect.Field;
import java.lang.reflect.Method;
import java.lang.reflect.Modifier;
import java.util.TreeSet;

/** The public face: the members of the document, and none besides them. */
public final class FaceTest {
    private static final String[] METHODS = {
        "set(int,int)", "block(int,int)", "net(int,int,int,int,int)", "give(int,int)",
        "netOf(int,int)", "cellOf(int)", "wireAt(int,int)", "lay(int)", "dig(int)", "rip(int)",
        "appeal(int)", "hear()", "pass(int)", "cost(int,int)", "price(int)", "victims(int)",
        "routeAt(int,int,int)", "bestOrder(int)", "claimOf(int,int)", "docketAt(int)", "wronged()",
        "count(int)", "undo()", "type(int)", "clearText()", "fault(int)", "play()"
    };

    public static void main(String[] args) {
        Class<WireDigs> face = WireDigs.class;
        Check.dueThat("public and final",
            Modifier.isPublic(face.getModifiers()) && Modifier.isFinal(face.getModifiers()));
        Check.dueThat("no package", face.getPackageName().isEmpty());
        methods(face);
        Constructor<?>[] constructors = face.getDeclaredConstructors();
        Check.due("constructors", constructors.length, 1);
        Check.dueThat("a public one without arguments",
            Modifier.isPublic(constructors[0].getModifiers()) && constructors[0].getParameterCount() == 0);
        fields(face);
        for (Class<?> inside : face.getDeclaredClasses()) {
            int modifiers = inside.getModifiers();
            Check.dueThat(inside + " is static and not public", Modifier.isStatic(modifiers)
                && !Modifier.isPublic(modifiers) && !Modifier.isProtected(modifiers));
        }
        Check.due("INVALID_ARGUMENT", WireDigs.INVALID_ARGUMENT, -1000001);
        Check.due("NOT_POSSIBLE", WireDigs.NOT_POSSIBLE, -1000002);
        Check.due("LIMIT_REACHED", WireDigs.LIMIT_REACHED, -1000003);
        Check.due("NOT_FOUND", WireDigs.NOT_FOUND, -1000004);
        Check.finish();
    }

    private static void methods(Class<?> face) {
        TreeSet<String> due = new TreeSet<>(java.util.List.of(METHODS));
        TreeSet<String> names = new TreeSet<>();
        for (String method : METHODS) {
            names.add(method.substring(0, method.indexOf('(')));
        }
        TreeSet<String> found = new TreeSet<>();
        for (Method method : face.getDeclaredMethods()) {
            if (Modifier.isPrivate(method.getModifiers())) {
                Check.dueThat(method + " bears no public name", !names.contains(method.getName()));
            } else if (!method.isSynthetic()) {
                StringBuilder text = new StringBuilder(method.getName()).append('(');
                for (Class<?> type : method.getParameterTypes()) {
                    text.append(text.charAt(text.length() - 1) == '(' ? "" : ",").append(type.getName());
                }
                found.add(text.append(')').toString());
                Check.dueThat(method + " is a public one of objects, answering an int",
                    Modifier.isPublic(method.getModifiers()) && !Modifier.isStatic(method.getModifiers())
                    && method.getReturnType() == int.class);
            }
        }
        Check.dueThat("methods: " + found, found.equals(due));
    }

    private static void fields(Class<?> face) {
        int shown = 0;
        for (Field field : face.getDeclaredFields()) {
            if (!Modifier.isPrivate(field.getModifiers())) {
                shown++;
                Check.dueThat(field + " is a public constant", Modifier.isPublic(field.getModifiers())
                    && Modifier.isStatic(field.getModifiers()) && Modifier.isFinal(field.getModifiers()));
            }
        }
        Check.due("constants that are seen", shown, 4);
    }
}
