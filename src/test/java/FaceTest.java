import java.lang.reflect.Field;
import java.lang.reflect.Method;
import java.lang.reflect.Modifier;
import java.util.Arrays;
import java.util.Set;
import java.util.TreeSet;
import java.util.regex.Matcher;
import java.util.regex.Pattern;

/** The class has the face that the document shows, and no more (rule 1 of LANGUAGE.md). */
public final class FaceTest {
    private static final Checks CHECKS = new Checks();

    /** The document's public face, as it stands there. */
    private static final String FACE = """
        public int addPerson(int pride) throws IllegalArgumentException, IllegalStateException;
        public boolean enter(int person) throws IndexOutOfBoundsException;
        public int slight(int offender, int offended, int weight) throws IndexOutOfBoundsException, IllegalArgumentException, IllegalStateException;
        public int mention(int slight) throws IndexOutOfBoundsException, IllegalStateException;
        public int apologize(int slight, int words) throws IndexOutOfBoundsException, IllegalArgumentException, IllegalStateException;
        public int setOff(int one, int other) throws IndexOutOfBoundsException, IllegalStateException;
        public int setPride(int person, int pride) throws IndexOutOfBoundsException, IllegalArgumentException;
        public int pass(int days) throws IllegalArgumentException;
        public int day();
        public int persons();
        public int slights();
        public int inHall();
        public int scorned();
        public boolean isInHall(int person) throws IndexOutOfBoundsException;
        public int prideOf(int person) throws IndexOutOfBoundsException;
        public int borneBy(int person) throws IndexOutOfBoundsException;
        public int owedBy(int person) throws IndexOutOfBoundsException;
        public int balance(int one, int other) throws IndexOutOfBoundsException;
        public int sorest();
        public int offenderOf(int slight) throws IndexOutOfBoundsException;
        public int offendedOf(int slight) throws IndexOutOfBoundsException;
        public int weightOf(int slight) throws IndexOutOfBoundsException;
        public int stateOf(int slight) throws IndexOutOfBoundsException;
        public int borneFor(int slight) throws IndexOutOfBoundsException;
        public int quietFor(int slight) throws IndexOutOfBoundsException;
        public int witnessesFor(int slight) throws IndexOutOfBoundsException;
        public int inState(int state) throws IllegalArgumentException;
        public int heaviest();
        public int pairsToSetOff();
        public int wordsWanted(int slight) throws IndexOutOfBoundsException;
        public boolean wouldBeScorned(int slight, int words) throws IndexOutOfBoundsException, IllegalArgumentException;
        public int weightIn(int slight, int days) throws IndexOutOfBoundsException, IllegalArgumentException;
        public int daysUntilForgotten(int slight) throws IndexOutOfBoundsException;
        public int borneIn(int person, int days) throws IndexOutOfBoundsException, IllegalArgumentException;
        public int worstToKeep(int person) throws IndexOutOfBoundsException;
        public double meanWeight();
        public long digest();
        """;

    private static final Pattern METHOD = Pattern.compile("(public \\w+ \\w+)\\((.*)\\)(?: throws (.*))?;");
    private static final Pattern PARAMETER = Pattern.compile("(\\w+) \\w+");

    private FaceTest() {
    }

    public static void main(String[] args) {
        Class<?> face = ApologyLedger.class;
        CHECKS.same("public final", face.getModifiers(), Modifier.PUBLIC | Modifier.FINAL);
        CHECKS.same("constructors", face.getDeclaredConstructors().length, 1);
        CHECKS.same("public constructors without parameters",
            face.getConstructors().length == 1 && face.getConstructors()[0].getParameterCount() == 0, true);
        fieldsArePrivate(face);
        methodsAreThoseOfTheDocument(face);
        CHECKS.end();
    }

    private static void fieldsArePrivate(Class<?> face) {
        for (Field field : face.getDeclaredFields()) {
            int modifiers = field.getModifiers();
            CHECKS.same("private " + field.getName(), Modifier.isPrivate(modifiers), true);
            CHECKS.same("final if static " + field.getName(),
                Modifier.isFinal(modifiers) || !Modifier.isStatic(modifiers), true);
        }
    }

    private static void methodsAreThoseOfTheDocument(Class<?> face) {
        Set<String> due = methodsOfTheDocument();
        CHECKS.same("methods in the document", due.size(), 37);
        Set<String> got = new TreeSet<>();
        Set<String> publicNames = new TreeSet<>();
        for (Method method : face.getDeclaredMethods()) {
            if (!Modifier.isPrivate(method.getModifiers())) {
                got.add(written(method));
                publicNames.add(method.getName());
            }
        }
        for (Method method : face.getDeclaredMethods()) {
            boolean sharesName = Modifier.isPrivate(method.getModifiers()) && publicNames.contains(method.getName());
            CHECKS.same("private method named like a public one: " + method.getName(), sharesName, false);
        }
        for (String method : due) {
            CHECKS.same("has " + method, got.contains(method), true);
        }
        for (String method : got) {
            CHECKS.same("document has " + method, due.contains(method), true);
        }
    }

    private static Set<String> methodsOfTheDocument() {
        Set<String> methods = new TreeSet<>();
        Matcher found = METHOD.matcher(FACE);
        while (found.find()) {
            String types = PARAMETER.matcher(found.group(2)).replaceAll("$1");
            String thrown = found.group(3) == null ? "" : found.group(3);
            methods.add(found.group(1) + "(" + types + ") throws " + thrown);
        }
        return methods;
    }

    private static String written(Method method) {
        return Modifier.toString(method.getModifiers()) + " " + method.getReturnType() + " " + method.getName()
            + "(" + names(method.getParameterTypes()) + ") throws " + names(method.getExceptionTypes());
    }

    private static String names(Class<?>[] types) {
        return String.join(", ", Arrays.stream(types).map(Class::getSimpleName).toList());
    }
}
