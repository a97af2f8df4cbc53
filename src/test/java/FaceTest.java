import java.lang.reflect.Constructor;
import java.lang.reflect.Field;
import java.lang.reflect.Method;
import java.lang.reflect.Modifier;
import java.util.Arrays;
import java.util.List;
import java.util.Set;
import java.util.TreeSet;

/** The public face, by reflection; rule 1 of LANGUAGE.md. */
public final class FaceTest {
    private static final List<String> METHODS = Arrays.asList(
        "int write(int,long)", "int wipe()", "int fault()", "int lay()", "int person(int,int)",
        "int differ(int,int,boolean)", "int may(int)", "int goIn(int)", "int goOut(int)", "int undo()",
        "int last()", "int add(int)", "int noRow()", "int judge()", "int longest(int,int)", "int proof()",
        "long between(int,int,int)", "int nearest(int,int)", "int steps(int,int,int)", "int lent(int)",
        "int mustSee()", "int crowd(int,int,int)", "int keep()", "int back()", "int count(int)");

    public static void main(String[] args) {
        Check check = new Check();
        Class<?> type = UnlikeGate.class;
        check.holds("public", Modifier.isPublic(type.getModifiers()));
        check.holds("final", Modifier.isFinal(type.getModifiers()));
        constants(check);
        constructors(check, type);
        methods(check, type);
        fields(check, type);
        check.end();
    }

    private static void constants(Check check) {
        check.same("BAD", UnlikeGate.BAD, -1);
        check.same("NO", UnlikeGate.NO, -2);
        check.same("FULL", UnlikeGate.FULL, -3);
        check.same("NONE", UnlikeGate.NONE, -4);
    }

    private static void constructors(Check check, Class<?> type) {
        Constructor<?>[] all = type.getDeclaredConstructors();
        check.same("constructors", all.length, 1);
        check.holds("public constructor", Modifier.isPublic(all[0].getModifiers()));
        check.same("its parameters", all[0].getParameterCount(), 0);
    }

    private static void methods(Check check, Class<?> type) {
        Set<String> open = new TreeSet<>();
        Set<String> openNames = new TreeSet<>();
        for (Method method : type.getDeclaredMethods()) {
            if (!Modifier.isPrivate(method.getModifiers())) {
                open.add(described(method));
                openNames.add(method.getName());
                check.holds(method + " is public", Modifier.isPublic(method.getModifiers()));
                check.holds(method + " is not static", !Modifier.isStatic(method.getModifiers()));
            }
        }
        check.holds("the methods are " + open, open.equals(new TreeSet<>(METHODS)));
        noNameTwice(check, type, openNames);
        for (Class<?> inside : type.getDeclaredClasses()) {
            check.holds(inside + " is static", Modifier.isStatic(inside.getModifiers()));
            noNameTwice(check, inside, openNames);
        }
    }

    private static void noNameTwice(Check check, Class<?> type, Set<String> openNames) {
        for (Method method : type.getDeclaredMethods()) {
            boolean ofFace = type == UnlikeGate.class && Modifier.isPublic(method.getModifiers());
            check.holds(method + " has a name of its own", ofFace || !openNames.contains(method.getName()));
        }
    }

    private static String described(Method method) {
        StringBuilder text = new StringBuilder();
        text.append(method.getReturnType().getName()).append(' ').append(method.getName()).append('(');
        for (Class<?> parameter : method.getParameterTypes()) {
            text.append(text.charAt(text.length() - 1) == '(' ? "" : ",").append(parameter.getName());
        }
        return text.append(')').toString();
    }

    private static void fields(Check check, Class<?> type) {
        Set<String> open = new TreeSet<>();
        for (Field field : type.getDeclaredFields()) {
            if (!Modifier.isPrivate(field.getModifiers())) {
                open.add(Modifier.toString(field.getModifiers()) + " " + field.getName());
            }
        }
        Set<String> due = new TreeSet<>(Arrays.asList("public static final BAD", "public static final NO",
            "public static final FULL", "public static final NONE"));
        check.holds("the fields are " + open, open.equals(due));
    }
}
