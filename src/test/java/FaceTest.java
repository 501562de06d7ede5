import java.lang.reflect.Constructor;
import java.lang.reflect.Executable;
import java.lang.reflect.Field;
import java.lang.reflect.Method;
import java.lang.reflect.Modifier;
import java.util.ArrayList;
import java.util.Arrays;
import java.util.List;

/** The document's public face and no more, and that objects share nothing. */
public final class FaceTest {
    private static final Checks checks = new Checks("FaceTest");

    /** As the document has them, without the names of what they take. */
    private static final String[] FACE = {
        "int task(long, long, int) throws ArithmeticException",
        "int jitter(int, long)",
        "int burst(int, int, long)",
        "int section(int, int, long)",
        "int offset(int, long)",
        "long answer(int)",
        "int reason(int, int, int)",
        "long longer(int)",
        "long busy(int)",
        "boolean plain(int)",
        "int interrupt(long, long)",
        "int spin(int, long)",
    };

    public static void main(String[] args) {
        classItself();
        methods();
        classesInside();
        objectsShareNothing();
        lastCallOf512();
        checks.end();
    }

    static List<Method> publicMethods() {
        List<Method> methods = new ArrayList<>();
        for (Method method : AnswerSums.class.getDeclaredMethods()) {
            if (Modifier.isPublic(method.getModifiers())) {
                methods.add(method);
            }
        }
        return methods;
    }

    private static void holds(String what, boolean so) {
        checks.due(what, true, so);
    }

    private static void classItself() {
        int marks = AnswerSums.class.getModifiers();
        holds("the class is public and final", Modifier.isPublic(marks) && Modifier.isFinal(marks));
        holds("the class has no package", AnswerSums.class.getPackageName().isEmpty());
        holds("the class extends no other", AnswerSums.class.getSuperclass() == Object.class);
        checks.due("interfaces of the class", 0, AnswerSums.class.getInterfaces().length);
        Constructor<?>[] constructors = AnswerSums.class.getDeclaredConstructors();
        checks.due("constructors", 1, constructors.length);
        holds("the constructor is public", Modifier.isPublic(constructors[0].getModifiers()));
        checks.due("what the constructor takes", 0, constructors[0].getParameterCount());
        for (Field field : AnswerSums.class.getDeclaredFields()) {
            holds(field.getName() + " is private", Modifier.isPrivate(field.getModifiers()));
            noStaticState(field);
        }
    }

    private static void methods() {
        List<Method> all = publicMethods();
        List<String> written = new ArrayList<>();
        for (Method method : all) {
            written.add(written(method));
        }
        for (String due : FACE) {
            holds("there is " + due, written.remove(due));
        }
        holds("there are no more: " + written, written.isEmpty());
        for (Method method : AnswerSums.class.getDeclaredMethods()) {
            if (!all.contains(method)) {
                holds(method.getName() + " is private", Modifier.isPrivate(method.getModifiers()));
                holds(method.getName() + " has a name of its own",
                        all.stream().noneMatch(one -> one.getName().equals(method.getName())));
            }
        }
    }

    private static String written(Method method) {
        return method.getReturnType() + " " + method.getName() + "(" + names(method.getParameterTypes())
                + ")" + thrown(method);
    }

    private static String thrown(Executable one) {
        Class<?>[] thrown = one.getExceptionTypes();
        return thrown.length == 0 ? "" : " throws " + names(thrown);
    }

    private static String names(Class<?>[] types) {
        return String.join(", ", Arrays.stream(types).map(Class::getSimpleName).toList());
    }

    private static void classesInside() {
        for (Class<?> inside : AnswerSums.class.getDeclaredClasses()) {
            int marks = inside.getModifiers();
            holds(inside.getSimpleName() + " is not public", !Modifier.isPublic(marks));
            holds(inside.getSimpleName() + " is static", Modifier.isStatic(marks));
            for (Field field : inside.getDeclaredFields()) {
                noStaticState(field);
            }
        }
    }

    private static void noStaticState(Field field) {
        int marks = field.getModifiers();
        holds(field + " is no static state", !Modifier.isStatic(marks) || Modifier.isFinal(marks));
    }

    /** What one object is told must not be seen by another, whichever was made first. */
    private static void objectsShareNothing() {
        AnswerSums first = new AnswerSums();
        AnswerSums second = new AnswerSums();
        checks.due("first: task", 1, Checks.task(first, 1, 10, 1));
        checks.due("second: no task", -2, second.answer(1));
        checks.due("second: task", 1, Checks.task(second, 2, 20, 2));
        AnswerSums third = new AnswerSums();
        checks.due("first: its task", 1, first.answer(1));
        checks.due("second: its task", 2, second.answer(1));
        checks.due("second: interrupt", 1, second.interrupt(3, 30));
        checks.due("second: jitter", 1, second.jitter(1, 19));
        checks.due("second: section", 1, second.section(1, 1, 1));
        checks.due("first: no interrupt", 1, first.answer(1));
        checks.due("first: busy", 100000, first.busy(0));
        checks.due("first: plain", true, first.plain(1));
        checks.due("first: section", 1, first.section(1, 1, 1));
        checks.due("third: still new", 0, third.busy(0));
        checks.due("third: first interrupt", 1, third.interrupt(1, 1));
    }

    /** "An object is used for at most 512 calls": the last of them answers as the first. */
    private static void lastCallOf512() {
        AnswerSums sums = new AnswerSums();
        checks.due("512: task", 1, Checks.task(sums, 1, 10, 1));
        checks.due("512: another", 2, Checks.task(sums, 2, 10, 1));
        for (int call = 3; call <= 510; call++) {
            checks.due("512: call " + call, call % 2 == 0 ? 3 : 1,
                    call % 2 == 0 ? sums.answer(1) : sums.spin(1, 0));
        }
        checks.due("512: call 511", 1, sums.spin(2, 1));
        checks.due("512: call 512", 4, sums.answer(1));
    }
}
