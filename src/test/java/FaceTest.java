import java.lang.reflect.Constructor;
import java.lang.reflect.Field;
import java.lang.reflect.Method;
import java.lang.reflect.Modifier;
import java.util.Set;
import java.util.TreeSet;

/** The public face is the document's, and nothing more (LANGUAGE.md, rule 1). */
public final class FaceTest {
    private static final Set<String> METHODS = Set.of(
        "int prime()",
        "int set(int,int,int)",
        "int coefficient(int,int)",
        "int size(int)",
        "int value(int,int)",
        "int add(int,int,int,int)",
        "int multiply(int,int,int)",
        "int divide(int,int,int,int)",
        "int common(int,int,int)",
        "int power(int,int,long,int)",
        "int derive(int,int)",
        "int isPrime(int)",
        "int factor(int)",
        "int part(int,int)",
        "int split(int,int)",
        "int product(int)",
        "int field(int)",
        "int times(int,int,int)",
        "int inverse(int,int)",
        "int trace(int,boolean)");

    public static void main(String[] args) {
        Check check = new Check();
        Set<String> open = new TreeSet<>();
        Set<String> names = new TreeSet<>();
        for (Method method : PrimePolynomials.class.getDeclaredMethods()) {
            if (Modifier.isPublic(method.getModifiers())) {
                open.add(signature(method));
                names.add(method.getName());
            }
        }
        check.due("public methods " + open, open.equals(METHODS) ? 1 : 0, 1);
        for (Method method : PrimePolynomials.class.getDeclaredMethods()) {
            if (!Modifier.isPublic(method.getModifiers())) {
                check.due(method + " is private", Modifier.isPrivate(method.getModifiers()) ? 1 : 0, 1);
                check.due(method + " bears a public name", names.contains(method.getName()) ? 1 : 0, 0);
            }
        }
        Set<String> constants = new TreeSet<>();
        for (Field field : PrimePolynomials.class.getDeclaredFields()) {
            if (!Modifier.isPrivate(field.getModifiers())) {
                constants.add(field.getName());
            }
        }
        check.due("constants " + constants, constants.equals(Set.of("NONE", "FULL")) ? 1 : 0, 1);
        check.due("NONE", PrimePolynomials.NONE, -1);
        check.due("FULL", PrimePolynomials.FULL, -2);
        Constructor<?>[] constructors = PrimePolynomials.class.getDeclaredConstructors();
        check.due("constructors", constructors.length, 1);
        check.due("public and final", PrimePolynomials.class.getModifiers(), Modifier.PUBLIC | Modifier.FINAL);
        check.end();
    }

    private static String signature(Method method) {
        StringBuilder text = new StringBuilder();
        for (Class<?> type : method.getParameterTypes()) {
            text.append(text.length() == 0 ? "" : ",").append(type.getName());
        }
        return method.getReturnType().getName() + " " + method.getName() + "(" + text + ")";
    }
}
