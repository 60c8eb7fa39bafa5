import java.lang.reflect.Field;
import java.lang.reflect.Method;
import java.lang.reflect.Modifier;
import java.util.Set;
import java.util.TreeMap;
import java.util.TreeSet;

/** The public face, and rules 1 and 5 of LANGUAGE.md as far as reflection sees them. */
public final class FaceTest {
    private static final Set<String> METHODS = Set.of("boolean card(int,int,int,int,int)", "boolean allow(int,int,int)",
            "int write(int,int,int)", "boolean field(int,boolean)", "boolean terminal(int,int,int,boolean,int)",
            "boolean takes(int)", "int fault(int,int)", "int run(int,int,int)", "int told(int)", "int exchange(int,int)",
            "int look(int,int)", "int mix(int,int,int,int,int)");

    public static void main(String[] args) throws IllegalAccessException {
        constantsAreTheDocuments();
        methodsAreTheDocuments();
        classesInsideArePrivate();
        Check.due("the class is public and final", TapTerminal.class.getModifiers(), Modifier.PUBLIC | Modifier.FINAL);
        Check.due("constructors", TapTerminal.class.getDeclaredConstructors().length, 1);
        Check.done();
    }

    private static void constantsAreTheDocuments() throws IllegalAccessException {
        TreeMap<String, Integer> constants = new TreeMap<>();
        for (Field field : TapTerminal.class.getDeclaredFields()) {
            int modifiers = field.getModifiers();
            if (!Modifier.isPrivate(modifiers)) {
                constants.put(field.getName(), field.getInt(null));
                Check.due(field.getName() + " is a constant", modifiers, Modifier.PUBLIC | Modifier.STATIC | Modifier.FINAL);
            }
        }
        Check.due("constants", constants.toString(),
                "{APPROVE=2, DECLINE=0, ENDED=5, FULL=-2, LOST=4, NO_CARD=3, ONLINE=1, REFUSED=-1}");
    }

    private static void methodsAreTheDocuments() {
        TreeSet<String> seen = new TreeSet<>();
        TreeSet<String> names = new TreeSet<>();
        for (Method method : TapTerminal.class.getDeclaredMethods()) {
            if (!Modifier.isPrivate(method.getModifiers())) {
                seen.add(method.toString().replace("public ", "").replace("TapTerminal.", ""));
                names.add(method.getName());
            }
        }
        Check.due("methods", seen.toString(), new TreeSet<>(METHODS).toString());
        for (Method method : TapTerminal.class.getDeclaredMethods()) {
            boolean hides = Modifier.isPrivate(method.getModifiers()) && names.contains(method.getName());
            Check.due(method.getName() + " bears the name of a public one", hides, false);
        }
    }

    private static void classesInsideArePrivate() {
        for (Class<?> inside : TapTerminal.class.getDeclaredClasses()) {
            int modifiers = inside.getModifiers();
            Check.due(inside.getName(), Modifier.isPrivate(modifiers) && Modifier.isStatic(modifiers), true);
            for (Field field : inside.getDeclaredFields()) {
                boolean changes = Modifier.isStatic(field.getModifiers()) && !Modifier.isFinal(field.getModifiers());
                Check.due(field.getName() + " is static and changes", changes, false);
            }
        }
        Check.due("few classes", TapTerminal.class.getDeclaredClasses().length < 12, true);
    }
}
