import java.lang.reflect.Constructor;
import java.lang.reflect.Field;
import java.lang.reflect.Method;
import java.lang.reflect.Modifier;
import java.util.Arrays;
import java.util.TreeSet;

/** The public face of the document, and nothing else that can be seen from outside. */
public final class FaceTest {
    private static final Due due = new Due("FaceTest");
    private static final String METHODS = "addRiver5 addTown5 append1 bend3 best2 cell2 clearText0 count1 flow2 label2 "
        + "letter2 load0 place1 rankFor1 reason2 remove1 river2 set2 setGap1 setHalo2 setRank2 setTownRank2 "
        + "straightest2 tidy0 town2 undo0 written2";

    public static void main(String[] args) {
        theClass();
        theConstants();
        theConstructor();
        theMethods();
        theClassesInside();
        due.end();
    }

    private static void same(String what, String got, String want) {
        due.is(what + " are " + got + ", not " + want, got.equals(want) ? 1 : 0, 1);
    }

    private static void theClass() {
        due.is("modifiers of the class", RiverNames.class.getModifiers(), Modifier.PUBLIC | Modifier.FINAL);
        due.is("the class has no package", RiverNames.class.getPackageName().length(), 0);
        due.is("interfaces", RiverNames.class.getInterfaces().length, 0);
    }

    private static void theConstants() {
        TreeSet<String> seen = new TreeSet<>();
        for (Field field : RiverNames.class.getDeclaredFields()) {
            if (!Modifier.isPrivate(field.getModifiers())) {
                seen.add(field.getName());
                due.is("modifiers of " + field.getName(), field.getModifiers(),
                    Modifier.PUBLIC | Modifier.STATIC | Modifier.FINAL);
            }
        }
        same("the constants", String.join(" ", seen), "CAPACITY_EXCEEDED ILLEGAL_STATE INVALID_ARGUMENT NONE");
        due.is("INVALID_ARGUMENT", RiverNames.INVALID_ARGUMENT, -1);
        due.is("ILLEGAL_STATE", RiverNames.ILLEGAL_STATE, -2);
        due.is("CAPACITY_EXCEEDED", RiverNames.CAPACITY_EXCEEDED, -3);
        due.is("NONE", RiverNames.NONE, -9);
    }

    private static void theConstructor() {
        Constructor<?>[] all = RiverNames.class.getDeclaredConstructors();
        due.is("constructors", all.length, 1);
        due.is("parameters of the constructor", all[0].getParameterCount(), 0);
        due.is("modifiers of the constructor", all[0].getModifiers(), Modifier.PUBLIC);
    }

    private static void theMethods() {
        TreeSet<String> seen = new TreeSet<>();
        TreeSet<String> hidden = new TreeSet<>();
        TreeSet<String> names = new TreeSet<>();
        for (Method method : RiverNames.class.getDeclaredMethods()) {
            if (Modifier.isPrivate(method.getModifiers())) {
                hidden.add(method.getName());
                continue;
            }
            seen.add(method.getName() + method.getParameterCount());
            names.add(method.getName());
            due.is("modifiers of " + method.getName(), method.getModifiers(), Modifier.PUBLIC);
            due.is(method.getName() + " takes and answers int",
                method.getReturnType() == int.class
                    && Arrays.stream(method.getParameterTypes()).allMatch(type -> type == int.class) ? 1 : 0, 1);
        }
        same("the methods", String.join(" ", seen), METHODS);
        hidden.retainAll(names);
        due.is("private methods with the name of a public one: " + hidden, hidden.size(), 0);
    }

    private static void theClassesInside() {
        Class<?>[] inside = RiverNames.class.getDeclaredClasses();
        due.is("at most some twelve classes", inside.length <= 11 ? 1 : 0, 1);
        for (Class<?> one : inside) {
            due.is(one.getSimpleName() + " is static", one.getModifiers() & Modifier.STATIC, Modifier.STATIC);
            due.is(one.getSimpleName() + " is hidden",
                one.getModifiers() & (Modifier.PUBLIC | Modifier.PROTECTED), 0);
            due.is("classes inside " + one.getSimpleName(), one.getDeclaredClasses().length, 0);
            for (Method method : one.getDeclaredMethods()) {
                due.is(one.getSimpleName() + "." + method.getName() + " has a name of its own",
                    (" " + METHODS).matches(".* " + method.getName() + "[0-9].*") ? 1 : 0, 0);
            }
        }
    }
}
