import java.lang.reflect.Constructor;
import java.lang.reflect.Field;
import java.lang.reflect.Method;
import java.lang.reflect.Modifier;
import java.util.TreeSet;

/** The document's face, with its signatures and exceptions, and nothing beside it that others could reach. */
public final class FaceTest {
    private static final Check CHECK = new Check();

    private static final String[] FACE = {
        "public int setWater(int,int) throws java.lang.IndexOutOfBoundsException,java.lang.IllegalArgumentException",
        "public int weir(int,int) throws java.lang.IllegalArgumentException,java.lang.IllegalStateException",
        "public int launch(int,int) throws java.lang.IllegalArgumentException,java.lang.IllegalStateException",
        "public int paddle(int,int,int) throws java.lang.IndexOutOfBoundsException,java.lang.IllegalArgumentException",
        "public int tar(int) throws java.lang.IndexOutOfBoundsException,java.lang.IllegalStateException",
        "public int boat(int,int) throws java.lang.IndexOutOfBoundsException",
        "public int count(int) throws java.lang.IndexOutOfBoundsException",
        "public int next(int) throws java.lang.IllegalArgumentException",
        "public int rank(int) throws java.lang.IndexOutOfBoundsException",
        "public int go(int) throws java.lang.IllegalArgumentException",
        "public int arrives(int) throws java.lang.IndexOutOfBoundsException",
        "public int foresee(int,int) throws java.lang.IllegalArgumentException,java.lang.IndexOutOfBoundsException",
        "public int advise(int,int) throws java.lang.IndexOutOfBoundsException,java.lang.IllegalArgumentException",
        "public double mean()",
        "public long digest()",
    };

    public static void main(String[] args) {
        CHECK.dueText("class", Modifier.toString(CoracleRace.class.getModifiers()), "public final");
        constructors();
        methods();
        fields();
        CHECK.end();
    }

    private static void constructors() {
        Constructor<?>[] constructors = CoracleRace.class.getDeclaredConstructors();
        CHECK.due("constructors", constructors.length, 1);
        CHECK.dueText("constructor", constructors[0].toGenericString(), "public CoracleRace()");
    }

    private static void methods() {
        TreeSet<String> due = new TreeSet<>();
        TreeSet<String> names = new TreeSet<>();
        for (String line : FACE) {
            due.add(line);
            names.add(line.replaceAll("\\(.*", "").replaceAll(".* ", ""));
        }
        TreeSet<String> open = new TreeSet<>();
        for (Method method : CoracleRace.class.getDeclaredMethods()) {
            if (Modifier.isPrivate(method.getModifiers())) {
                CHECK.due("private method with a public name: " + method.getName(),
                    names.contains(method.getName()) ? 1 : 0, 0);
            } else {
                open.add(method.toGenericString().replace("CoracleRace.", ""));
            }
        }
        CHECK.dueText("methods", open.toString(), due.toString());
    }

    private static void fields() {
        for (Field field : CoracleRace.class.getDeclaredFields()) {
            CHECK.due("private: " + field.getName(), Modifier.isPrivate(field.getModifiers()) ? 1 : 0, 1);
        }
    }
}
