import java.lang.reflect.Constructor;
import java.lang.reflect.Method;
import java.lang.reflect.Modifier;
import java.util.Arrays;
import java.util.HashSet;
import java.util.Set;
import java.util.TreeSet;
import java.util.stream.Collectors;

/** The public face is that of the document, with its exceptions, and nothing more (LANGUAGE.md, rule 1). */
final class FaceTests {
    private static final String FACE = "int addCredit(char,int,int,int) IllegalArgumentException,UnsupportedOperationException\n"
            + "int dropCredit(int) IndexOutOfBoundsException\n"
            + "int credit(int,int) IndexOutOfBoundsException,IllegalArgumentException\n"
            + "char code(int) IndexOutOfBoundsException\n"
            + "int expires(int,int) IndexOutOfBoundsException,IllegalStateException\n"
            + "int addEquivalence(char,char,char,char) IllegalArgumentException,IllegalStateException\n"
            + "char equivalent(int,int) IndexOutOfBoundsException,IllegalArgumentException\n"
            + "int apply(int) IndexOutOfBoundsException,UnsupportedOperationException\n"
            + "int rootsBy(int) IndexOutOfBoundsException,NoSuchElementException\n"
            + "int bestEquivalence() NoSuchElementException\n"
            + "void append(char) IllegalStateException\n"
            + "int readProgram() IllegalArgumentException,UnsupportedOperationException\n"
            + "int faultPosition() \n"
            + "int refusal() NoSuchElementException\n"
            + "int block(int,int) IndexOutOfBoundsException,IllegalArgumentException\n"
            + "int part(int,int) IndexOutOfBoundsException,NoSuchElementException\n"
            + "char letter(int,int) IndexOutOfBoundsException,NoSuchElementException\n"
            + "boolean accepts(int,int) IndexOutOfBoundsException\n"
            + "boolean isMet(int) IndexOutOfBoundsException\n"
            + "int points(int) IndexOutOfBoundsException\n"
            + "int lacks(int) IndexOutOfBoundsException,IllegalStateException\n"
            + "boolean isComplete() \n"
            + "int rootsWith(char,int,int,int) IllegalArgumentException,IllegalStateException\n"
            + "int lapses() NoSuchElementException\n"
            + "int layers(int) IndexOutOfBoundsException\n"
            + "int why(int,int,int) IndexOutOfBoundsException,NoSuchElementException,IllegalArgumentException\n"
            + "int pass(int) IllegalArgumentException\n"
            + "int year() \n"
            + "int account(int) IllegalArgumentException\n"
            + "double meanGrade() ArithmeticException\n"
            + "int undo() IllegalStateException\n"
            + "void save() \n"
            + "void restore() IllegalStateException";

    private FaceTests() {
    }

    static void runAll(Check check) {
        check.begin("the face");
        Class<?> face = CreditTransfer.class;
        check.equal(Modifier.isFinal(face.getModifiers()) && Modifier.isPublic(face.getModifiers()), true);
        Set<String> found = new TreeSet<>();
        for (Method m : face.getDeclaredMethods()) {
            if (!Modifier.isPrivate(m.getModifiers())) {
                found.add(signature(m));
            }
        }
        check.equal(found, new TreeSet<>(Arrays.asList(FACE.split("\n"))));
        Constructor<?>[] constructors = face.getDeclaredConstructors();
        check.equal(constructors.length, 1);
        check.equal(Modifier.isPublic(constructors[0].getModifiers()) && constructors[0].getParameterCount() == 0, true);
        check.equal(Arrays.stream(face.getDeclaredFields()).allMatch(f -> Modifier.isPrivate(f.getModifiers())), true);
        innerMethods(check, face);
    }

    private static String signature(Method m) {
        return m.getReturnType() + " " + m.getName() + "(" + names(m.getParameterTypes()) + ") " + names(m.getExceptionTypes());
    }

    private static String names(Class<?>[] types) {
        return Arrays.stream(types).map(Class::getSimpleName).collect(Collectors.joining(","));
    }

    private static void innerMethods(Check check, Class<?> face) {
        Set<String> publicNames = new HashSet<>();
        for (Method m : face.getMethods()) {
            publicNames.add(m.getName());
        }
        for (Class<?> inner : face.getDeclaredClasses()) {
            check.begin("the class " + inner.getSimpleName());
            check.equal(Modifier.isStatic(inner.getModifiers()) && !Modifier.isPublic(inner.getModifiers()), true);
            for (Method m : inner.getDeclaredMethods()) {
                check.equal(publicNames.contains(m.getName()) ? m.getName() : "a name of its own", "a name of its own");
            }
        }
    }
}
