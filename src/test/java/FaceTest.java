import java.lang.reflect.Constructor;
import java.lang.reflect.Executable;
import java.lang.reflect.Field;
import java.lang.reflect.Member;
import java.lang.reflect.Method;
import java.lang.reflect.Modifier;
import java.util.ArrayList;
import java.util.Arrays;
import java.util.List;
import java.util.TreeSet;

/** The face is that of the document, to the letter, and nothing else of the class can be reached. */
public final class FaceTest {
    private static final String I = " throws IndexOutOfBoundsException";
    private static final String A = " throws IllegalArgumentException";
    private static final String IA = I + ", IllegalArgumentException";
    private static final String IAS = IA + ", IllegalStateException";
    private static final String IASU = IAS + ", UnsupportedOperationException";
    private static final String[] FACE = {
        "int addHouse(char)" + A + ", IllegalStateException",
        "char kindOf(int)" + I,
        "int dig(int, char, int)" + IAS,
        "int decree(char, int, int)" + A,
        "int mint(int, char, int)" + IASU,
        "int clip(int, int)" + IA + ", UnsupportedOperationException",
        "boolean hoard(int, boolean)" + I + ", UnsupportedOperationException",
        "int recoin(int, char)" + IAS,
        "int pay(int, int, char, int)" + IASU,
        "int deposit(int, int, char, int)" + IASU,
        "char withdraw(int, int, char, int)" + IASU,
        "int lend(int, int, int)" + IAS,
        "int hand(int, int, int, int)" + IASU,
        "int forgive(int, int, int)" + IA + ", UnsupportedOperationException",
        "int claim(int, int)" + I,
        "int draw(int, int, int, int)" + IASU,
        "int endorse(int, int)" + IASU,
        "int holderOf(int)" + I,
        "int nextDay()",
        "int addShare(int, int, int)" + IAS,
        "int throwOver(int, int, int)" + IASU,
        "int coins(int, char)" + IA,
        "int weightOf(int)" + I,
        "int ownerOf(int)" + I,
        "int owners(int)" + I,
        "int ore(int, char)" + IA,
        "long wealth(int)" + I,
        "long lost()",
        "float lightShare() throws ArithmeticException",
        "double meanWeight() throws ArithmeticException",
        "boolean isSound()",
    };

    public static void main(String[] args) {
        Due due = new Due();
        due.is("the class is public and final", Modifier.toString(Harbourmint.class.getModifiers()), "public final");
        TreeSet<String> written = new TreeSet<>();
        TreeSet<String> names = new TreeSet<>();
        for (Method method : Harbourmint.class.getDeclaredMethods()) {
            if (Modifier.isPublic(method.getModifiers())) {
                written.add(told(method.getReturnType().getName() + " " + method.getName(), method));
                names.add(method.getName());
            }
        }
        due.is("the public methods", written.toString(), new TreeSet<>(Arrays.asList(FACE)).toString());
        Constructor<?>[] constructors = Harbourmint.class.getDeclaredConstructors();
        due.is("constructors", constructors.length, 1);
        due.is("the constructor", constructors[0].toString(), "public Harbourmint()");
        checkTheRest(due, names);
        due.end();
    }

    private static String told(String start, Executable method) {
        List<String> types = new ArrayList<>();
        for (Class<?> type : method.getParameterTypes()) {
            types.add(type.getName());
        }
        List<String> thrown = new ArrayList<>();
        for (Class<?> type : method.getExceptionTypes()) {
            thrown.add(type.getSimpleName());
        }
        String tail = thrown.isEmpty() ? "" : " throws " + String.join(", ", thrown);
        return start + "(" + String.join(", ", types) + ")" + tail;
    }

    private static void checkTheRest(Due due, TreeSet<String> names) {
        for (Method method : Harbourmint.class.getDeclaredMethods()) {
            if (!Modifier.isPublic(method.getModifiers())) {
                checkPrivate(due, method);
                due.is(method.getName() + " is the name of a public one", names.contains(method.getName()), false);
            }
        }
        for (Field field : Harbourmint.class.getDeclaredFields()) {
            checkPrivate(due, field);
            if (Modifier.isStatic(field.getModifiers())) {
                due.is(field.getName() + " is final", Modifier.isFinal(field.getModifiers()), true);
            }
        }
        for (Class<?> inside : Harbourmint.class.getDeclaredClasses()) {
            int modifiers = inside.getModifiers();
            due.is(inside.getName() + " is static", Modifier.isStatic(modifiers), true);
            due.is(inside.getName() + " can be reached", (modifiers & (Modifier.PUBLIC | Modifier.PROTECTED)) != 0, false);
        }
    }

    private static void checkPrivate(Due due, Member member) {
        due.is(member.getName() + " is private", Modifier.isPrivate(member.getModifiers()), true);
    }
}
