import java.lang.reflect.Constructor;
import java.lang.reflect.Field;
import java.lang.reflect.Method;
import java.lang.reflect.Modifier;
import java.util.Arrays;
import java.util.Set;
import java.util.TreeSet;

/** The public face: every member of the document, no other that can be seen from outside, and rule 1 of LANGUAGE.md. */
public final class FaceTest {
    private static final Set<String> METHODS = new TreeSet<>(Arrays.asList(
            "int add(int,int,int)", "int drop(int,int)", "boolean window(int,int)",
            "int sign(int,int,int,int,int)", "boolean spoil(int,int)", "int seal(int,int)",
            "int anchor(int,int)", "int tick(int)", "int ask(int,int)", "int reason()",
            "int answer(int)", "int zone(int)", "int figure(int)", "int above(int,int)"));
    private static final Set<String> CONSTANTS =
            new TreeSet<>(Arrays.asList("NONE", "FULL", "TRUE", "OPEN", "FALSE", "UNKNOWN"));

    public static void main(String[] args) {
        Due.is("NONE", TrustResolver.NONE, -1);
        Due.is("FULL", TrustResolver.FULL, -2);
        Due.is("TRUE", TrustResolver.TRUE, 0);
        Due.is("OPEN", TrustResolver.OPEN, 1);
        Due.is("FALSE", TrustResolver.FALSE, 2);
        Due.is("UNKNOWN", TrustResolver.UNKNOWN, 3);
        classItself();
        constantsInCases();
        methods();
        fields();
        constructors();
        classesInside();
        Due.end();
    }

    private static void classItself() {
        Class<TrustResolver> face = TrustResolver.class;
        Due.is("public", Modifier.isPublic(face.getModifiers()), true);
        Due.is("final", Modifier.isFinal(face.getModifiers()), true);
        Due.is("without a package", face.getPackageName().isEmpty(), true);
        Due.is("an interface, enum or record", face.isInterface() || face.isEnum() || face.isRecord(), false);
        Due.is("extends nothing", face.getSuperclass() == Object.class, true);
        Due.is("implements nothing", face.getInterfaces().length, 0);
    }

    /** The document writes them as constants, so a caller's switch may name them: else this does not compile. */
    private static void constantsInCases() {
        int seen = 0;
        for (int value = -2; value <= 3; value++) {
            switch (value) {
                case TrustResolver.FULL:
                case TrustResolver.NONE:
                case TrustResolver.TRUE:
                case TrustResolver.OPEN:
                case TrustResolver.FALSE:
                case TrustResolver.UNKNOWN:
                    seen++;
                    break;
                default:
                    break;
            }
        }
        Due.is("constants that differ", seen, 6);
    }

    private static void methods() {
        Set<String> seen = new TreeSet<>();
        Set<String> publicNames = new TreeSet<>();
        for (Method m : TrustResolver.class.getDeclaredMethods()) {
            if (!Modifier.isPrivate(m.getModifiers())) {
                seen.add(signature(m));
                publicNames.add(m.getName());
                Due.is(m + " is public, no static one",
                        Modifier.isPublic(m.getModifiers()) && !Modifier.isStatic(m.getModifiers()), true);
                Due.is(m + " declares exceptions", m.getExceptionTypes().length, 0);
            }
        }
        Due.is("methods " + seen, seen.equals(METHODS), true);
        noPrivateOneHas(publicNames, TrustResolver.class);
        for (Class<?> inside : TrustResolver.class.getDeclaredClasses()) {
            noPrivateOneHas(publicNames, inside);
        }
    }

    /** 'No private method bears the name of a public one.' */
    private static void noPrivateOneHas(Set<String> publicNames, Class<?> where) {
        for (Method m : where.getDeclaredMethods()) {
            boolean twice = Modifier.isPrivate(m.getModifiers()) && publicNames.contains(m.getName());
            Due.is("a private " + m.getName() + " in " + where, twice, false);
        }
    }

    private static String signature(Method m) {
        StringBuilder text = new StringBuilder(m.getReturnType() + " " + m.getName() + "(");
        for (int k = 0; k < m.getParameterCount(); k++) {
            text.append(k > 0 ? "," : "").append(m.getParameterTypes()[k]);
        }
        return text.append(')').toString();
    }

    private static void fields() {
        Set<String> seen = new TreeSet<>();
        for (Field f : TrustResolver.class.getDeclaredFields()) {
            int modifiers = f.getModifiers();
            if (!Modifier.isPrivate(modifiers)) {
                seen.add(f.getName());
                Due.is(f + " is a constant", Modifier.isPublic(modifiers) && Modifier.isStatic(modifiers)
                        && Modifier.isFinal(modifiers) && f.getType() == int.class, true);
            }
            Due.is(f + " is no changing static", Modifier.isStatic(modifiers) && !Modifier.isFinal(modifiers), false);
        }
        Due.is("constants " + seen, seen.equals(CONSTANTS), true);
    }

    private static void constructors() {
        Constructor<?>[] all = TrustResolver.class.getDeclaredConstructors();
        Due.is("constructors", all.length, 1);
        Due.is("public", Modifier.isPublic(all[0].getModifiers()), true);
        Due.is("arguments", all[0].getParameterCount(), 0);
        Due.is("declares exceptions", all[0].getExceptionTypes().length, 0);
    }

    private static void classesInside() {
        Class<?>[] inside = TrustResolver.class.getDeclaredClasses();
        Due.is("at most twelve classes", inside.length <= 11, true);
        for (Class<?> c : inside) {
            int modifiers = c.getModifiers();
            Due.is(c + " is static", Modifier.isStatic(modifiers), true);
            Due.is(c + " is hidden", Modifier.isPublic(modifiers) || Modifier.isProtected(modifiers), false);
            for (Field f : c.getDeclaredFields()) {
                Due.is(f + " is no changing static",
                        Modifier.isStatic(f.getModifiers()) && !Modifier.isFinal(f.getModifiers()), false);
            }
        }
    }
}
