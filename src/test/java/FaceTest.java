import java.lang.reflect.Constructor;
import java.lang.reflect.Field;
import java.lang.reflect.Method;
import java.lang.reflect.Modifier;
import java.util.ArrayList;
import java.util.Collections;
import java.util.List;
import java.util.Set;
import java.util.TreeSet;

/** The public face is that of the document, and nothing else can be seen. */
public final class FaceTest {
    private static final String[] FACE = {
        "int cup(int,int) IllegalArgumentException UnsupportedOperationException",
        "int lamp(int,int) IllegalArgumentException UnsupportedOperationException",
        "int cat(int,int) IllegalArgumentException UnsupportedOperationException",
        "int take(int) IndexOutOfBoundsException",
        "int cue(int,int) IndexOutOfBoundsException IllegalArgumentException UnsupportedOperationException",
        "int set(int) IllegalArgumentException UnsupportedOperationException",
        "int shock()",
        "int add(int) IllegalArgumentException UnsupportedOperationException",
        "int perform() UnsupportedOperationException",
        "int quiet()",
        "int propOf(int,int) IndexOutOfBoundsException IllegalArgumentException",
        "int programme(int) NoSuchElementException",
        "int on(int,int,boolean) IllegalArgumentException",
        "int wouldMark(int) IllegalArgumentException",
        "int wouldBreak(int,boolean) IllegalArgumentException",
        "int programmeBreaks()",
        "int best()",
        "int leastBreaking() NoSuchElementException",
        "int shocksFor(int) IndexOutOfBoundsException",
        "boolean isBroken(int) IndexOutOfBoundsException",
        "int cupAt(int) NoSuchElementException",
        "int lampAt(int) NoSuchElementException",
        "int catAt(int) NoSuchElementException",
        "int onFloor(int,int) IllegalArgumentException",
        "int line(int) IndexOutOfBoundsException",
        "int programmeLine()",
        "char character(int) IndexOutOfBoundsException",
        "int append(char) IllegalStateException",
        "int run() IllegalArgumentException UnsupportedOperationException",
        "int errorPosition()",
        "int refusal(boolean) NoSuchElementException",
        "int account(int) IllegalArgumentException",
        "boolean isWell()",
        "double meanGrade() ArithmeticException",
        "float brokenShare() ArithmeticException",
        "int undo() IllegalStateException",
        "int save()",
        "int restore() IllegalStateException",
    };

    private FaceTest() {
    }

    public static void main(String[] args) {
        Check.begin("face");
        Class<?> type = QuakeRehearsal.class;
        Check.same("the class is public and final", Modifier.PUBLIC | Modifier.FINAL, type.getModifiers());
        checkMethods(type);
        checkHidden(type);
        Check.end();
    }

    private static void checkMethods(Class<?> type) {
        List<String> wanted = new ArrayList<>(List.of(FACE));
        List<String> found = new ArrayList<>();
        Set<String> publicNames = new TreeSet<>();
        Set<String> otherNames = new TreeSet<>();
        for (Method method : type.getDeclaredMethods()) {
            if (Modifier.isPrivate(method.getModifiers())) {
                otherNames.add(method.getName());
            } else {
                found.add(told(method));
                publicNames.add(method.getName());
                Check.same(method.getName() + " is public", Modifier.PUBLIC, method.getModifiers());
            }
        }
        Collections.sort(wanted);
        Collections.sort(found);
        Check.same("the methods that can be seen", wanted, found);
        otherNames.retainAll(publicNames);
        Check.same("private methods with the name of a public one", "[]", otherNames.toString());
    }

    private static String told(Method method) {
        StringBuilder text = new StringBuilder();
        text.append(method.getReturnType().getSimpleName()).append(' ').append(method.getName()).append('(');
        String comma = "";
        for (Class<?> parameter : method.getParameterTypes()) {
            text.append(comma).append(parameter.getSimpleName());
            comma = ",";
        }
        text.append(')');
        for (Class<?> exception : method.getExceptionTypes()) {
            text.append(' ').append(exception.getSimpleName());
        }
        return text.toString();
    }

    private static void checkHidden(Class<?> type) {
        for (Field field : type.getDeclaredFields()) {
            Check.same(field.getName() + " is private", true, Modifier.isPrivate(field.getModifiers()));
        }
        Constructor<?>[] constructors = type.getDeclaredConstructors();
        Check.same("constructors", 1, constructors.length);
        Check.same("the constructor's parameters", 0, constructors[0].getParameterCount());
        Check.same("the constructor is public", Modifier.PUBLIC, constructors[0].getModifiers());
        for (Class<?> inside : type.getDeclaredClasses()) {
            Check.same(inside.getSimpleName() + " is static", true, Modifier.isStatic(inside.getModifiers()));
            Check.same(inside.getSimpleName() + " is public", false, Modifier.isPublic(inside.getModifiers()));
        }
    }
}
