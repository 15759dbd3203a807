import java.lang.reflect.Constructor;
import java.lang.reflect.Field;
import java.lang.reflect.Method;
import java.lang.reflect.Modifier;
import java.util.TreeSet;

/** The public face with its constants, and rules 1 and 5 of LANGUAGE.md as far as a class file shows them. */
public final class FaceTest {
    private static final String[] METHODS = {
        "boolean locality(int)", "boolean extend(int,long)", "boolean reset(int)", "long register(int)",
        "long digest(int)", "int create(long)", "boolean destroy(int)", "long name(int)", "int begin(long)",
        "boolean end(int)", "long nonce(int)", "boolean prove(long,int,int,int,long)", "void present(long)",
        "int seal(int,int,int,long)", "int unseal(int,int)", "int quote(int,int,int,long)", "long output()",
        "long blob(int,int)", "boolean change(int,int,long)", "void reboot()", "int failures()"};
    private static final String[] CONSTANTS = {
        "int BAD", "int LOCKED", "int BROKEN", "int GONE", "int FULL", "int DENIED", "int POLICY", "long NONE"};

    public static void main(String[] args) {
        constants();
        theClass();
        methods();
        fields();
        Check.finish();
    }

    private static void constants() {
        Check.due("BAD", RegisterSealer.BAD, -1);
        Check.due("LOCKED", RegisterSealer.LOCKED, -2);
        Check.due("BROKEN", RegisterSealer.BROKEN, -3);
        Check.due("GONE", RegisterSealer.GONE, -4);
        Check.due("FULL", RegisterSealer.FULL, -5);
        Check.due("DENIED", RegisterSealer.DENIED, -6);
        Check.due("POLICY", RegisterSealer.POLICY, -7);
        Check.due("NONE", RegisterSealer.NONE, 0);
    }

    private static void theClass() {
        Check.due("public and final", RegisterSealer.class.getModifiers(), Modifier.PUBLIC | Modifier.FINAL);
        Check.due("its superclass is Object", RegisterSealer.class.getSuperclass() == Object.class, true);
        Check.due("interfaces", RegisterSealer.class.getInterfaces().length, 0);
        Constructor<?>[] constructors = RegisterSealer.class.getDeclaredConstructors();
        Check.due("constructors", constructors.length, 1);
        Check.due("public constructor", constructors[0].getModifiers(), Modifier.PUBLIC);
        Class<?>[] parameters = constructors[0].getParameterTypes();
        Check.due("its parameters", parameters.length, 2);
        Check.due("two ints", parameters[0] == int.class && parameters[1] == int.class, true);
    }

    private static void methods() {
        TreeSet<String> missing = new TreeSet<>(java.util.Arrays.asList(METHODS));
        TreeSet<String> publicNames = new TreeSet<>();
        for (String method : METHODS) {
            publicNames.add(method.substring(method.indexOf(' ') + 1, method.indexOf('(')));
        }
        for (Method method : RegisterSealer.class.getDeclaredMethods()) {
            String face = face(method);
            if (Modifier.isPrivate(method.getModifiers())) {
                Check.due("private " + face + " bears a public name", publicNames.contains(method.getName()), false);
            } else {
                Check.due(face + " is of the face", missing.remove(face), true);
                Check.due(face + " is public alone", method.getModifiers(), Modifier.PUBLIC);
                Check.due(face + " declares exceptions", method.getExceptionTypes().length, 0);
            }
        }
        Check.due("missing " + missing, missing.size(), 0);
    }

    private static String face(Method method) {
        StringBuilder text = new StringBuilder(method.getReturnType() + " " + method.getName() + "(");
        String comma = "";
        for (Class<?> parameter : method.getParameterTypes()) {
            text.append(comma).append(parameter);
            comma = ",";
        }
        return text.append(")").toString();
    }

    private static void fields() {
        TreeSet<String> missing = new TreeSet<>(java.util.Arrays.asList(CONSTANTS));
        int wantConstant = Modifier.PUBLIC | Modifier.STATIC | Modifier.FINAL;
        for (Field field : RegisterSealer.class.getDeclaredFields()) {
            String face = field.getType() + " " + field.getName();
            if (!Modifier.isPrivate(field.getModifiers())) {
                Check.due(face + " is of the face", missing.remove(face), true);
                Check.due(face + " is a public constant", field.getModifiers(), wantConstant);
            }
            if (Modifier.isStatic(field.getModifiers())) {
                Check.due(face + ", static, is final", Modifier.isFinal(field.getModifiers()), true);
            }
        }
        Check.due("missing " + missing, missing.size(), 0);
    }
}
