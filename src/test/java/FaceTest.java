import java.io.IOException;
import java.lang.reflect.Constructor;
import java.lang.reflect.Field;
import java.lang.reflect.Method;
import java.lang.reflect.Modifier;
import java.nio.file.Files;
import java.nio.file.Path;
import java.util.Arrays;
import java.util.Set;
import java.util.TreeSet;
import java.util.stream.Collectors;

/** The public face (all promises), and the rules of LANGUAGE.md that can be read off the class or its source. */
public final class FaceTest {
    private static final String[] METHODS = {
        "int record(int,int,int) throws IndexOutOfBoundsException,IllegalArgumentException,IllegalStateException",
        "int erase(int) throws IndexOutOfBoundsException",
        "int packets()",
        "int packet(int,int) throws IndexOutOfBoundsException,IllegalArgumentException",
        "int setCapacity(int) throws IllegalArgumentException",
        "int setRate(int) throws IllegalArgumentException",
        "int setPolicy(int) throws IllegalArgumentException",
        "int setScheduler(int) throws IllegalArgumentException",
        "int setFactor(int) throws IllegalArgumentException",
        "int setThreshold(int) throws IllegalArgumentException",
        "int setInterval(int) throws IllegalArgumentException",
        "int setMeasure(int) throws IllegalArgumentException",
        "int setPriority(int,int) throws IndexOutOfBoundsException,IllegalArgumentException",
        "int replay(int) throws IllegalArgumentException",
        "int fate(int)",
        "int loadAt(int)",
        "int peak()",
        "int dropped(int)",
        "int worth(int) throws IllegalArgumentException",
        "int worthFor(int,int) throws IndexOutOfBoundsException,IllegalArgumentException",
        "int contribution(int,int) throws IndexOutOfBoundsException,IllegalArgumentException",
        "int blame(int,int) throws IndexOutOfBoundsException,IllegalArgumentException",
        "int blameFor(int,int,int) throws IndexOutOfBoundsException,IllegalArgumentException",
        "int index(int,int) throws IndexOutOfBoundsException,IllegalArgumentException",
        "int interaction(int,int,int) throws IndexOutOfBoundsException,IllegalArgumentException",
        "int ranked(int) throws IndexOutOfBoundsException",
        "int sampled(int,int,int) throws IndexOutOfBoundsException,IllegalArgumentException",
        "int cause(int) throws IndexOutOfBoundsException",
        "int suspects(int) throws IndexOutOfBoundsException",
        "int capacityFor(int) throws IllegalArgumentException",
        "int bestPolicy()",
        "int type(int) throws IllegalArgumentException,IllegalStateException",
        "int clearText()",
        "int fault()",
        "int run() throws IllegalArgumentException",
        "int undo() throws IllegalStateException",
        "long checksum()"};

    private static final String[] FORBIDDEN = {
        "import ", "package ", "->", "::", "finally", "synchronized", "assert ", "Exact(", "try ", "catch",
        "hashCode", "System.out", "instanceof", "double", "float"};

    private static String namesOf(Class<?>[] types) {
        return Arrays.stream(types).map(Class::getSimpleName).collect(Collectors.joining(","));
    }

    private static String signature(Method m) {
        String thrown = namesOf(m.getExceptionTypes());
        return m.getReturnType().getSimpleName() + " " + m.getName() + "(" + namesOf(m.getParameterTypes()) + ")"
            + (thrown.isEmpty() ? "" : " throws " + thrown);
    }

    private static void methods() {
        Set<String> got = new TreeSet<>();
        Set<String> names = new TreeSet<>();
        for (Method m : QueueBlame.class.getDeclaredMethods()) {
            if (!Modifier.isPrivate(m.getModifiers())) {
                got.add(signature(m));
                names.add(m.getName());
                Check.due(m.getName() + " is public and of the object", m.getModifiers(), Modifier.PUBLIC);
            }
        }
        Set<String> due = new TreeSet<>(Arrays.asList(METHODS));
        if (!got.equals(due)) System.out.println("the face is " + got);
        Check.due("the methods are those of the face", got.equals(due) ? 1 : 0, 1);
        Check.due("the number of promised methods", METHODS.length, 37);
        bearersOfFaceNames(QueueBlame.class, names);
        for (Class<?> inside : QueueBlame.class.getDeclaredClasses()) {
            Check.due(inside.getName() + " is static", Modifier.isStatic(inside.getModifiers()) ? 1 : 0, 1);
            Check.due(inside.getName() + " is public", Modifier.isPublic(inside.getModifiers()) ? 1 : 0, 0);
            bearersOfFaceNames(inside, names);
        }
    }

    private static void bearersOfFaceNames(Class<?> owner, Set<String> names) {
        for (Method m : owner.getDeclaredMethods()) {
            boolean face = owner == QueueBlame.class && Modifier.isPublic(m.getModifiers());
            if (!face && names.contains(m.getName())) {
                Check.due(owner.getName() + " bears the name of the face " + m.getName(), 1, 0);
            }
            Check.due(m.getName() + " has too many parameters", m.getParameterCount() > 7 ? 1 : 0, 0);
        }
    }

    private static void fields() throws IllegalAccessException {
        int visible = 0;
        for (Field f : QueueBlame.class.getDeclaredFields()) {
            if (!Modifier.isPrivate(f.getModifiers())) visible++;
            boolean constant = !Modifier.isStatic(f.getModifiers()) || Modifier.isFinal(f.getModifiers());
            Check.due(f.getName() + " is no changing static field", constant ? 1 : 0, 1);
        }
        Check.due("visible fields", visible, 1);
        Check.due("NONE", QueueBlame.NONE, -1);
        Check.due("the class is final", Modifier.isFinal(QueueBlame.class.getModifiers()) ? 1 : 0, 1);
        Constructor<?>[] made = QueueBlame.class.getDeclaredConstructors();
        Check.due("constructors", made.length, 1);
        Check.due("parameters of the constructor", made[0].getParameterCount(), 0);
    }

    private static void source() throws IOException {
        String source = Files.readString(Path.of("src/main/java/QueueBlame.java"));
        for (String word : FORBIDDEN) {
            Check.due("the source has " + word, source.contains(word) ? 1 : 0, 0);
        }
        for (char c : source.toCharArray()) {
            if (c > 126) Check.due("a character that is not ASCII", c, 0);
        }
    }

    public static void main(String[] args) throws Exception {
        methods();
        fields();
        source();
        Check.end();
    }
}
