import java.lang.reflect.Constructor;
import java.lang.reflect.Field;
import java.lang.reflect.Method;
import java.lang.reflect.Modifier;
import java.util.Arrays;
import java.util.Set;
import java.util.TreeSet;

/** The public face, member by member, and the rules of the language that can be seen from outside. */
public final class FaceTest {
    private static final String[] FACE = {
        "int ring(int) throws IllegalArgumentException",
        "int wind(int, int, int) throws IndexOutOfBoundsException, IllegalArgumentException",
        "int gas(int) throws IllegalArgumentException",
        "int balloon(int) throws IllegalArgumentException, UnsupportedOperationException",
        "int fill(int, int) throws IndexOutOfBoundsException, IllegalArgumentException, UnsupportedOperationException",
        "int ballast(int, int) throws IndexOutOfBoundsException, IllegalArgumentException, UnsupportedOperationException",
        "int courier(int, int) throws IndexOutOfBoundsException, IllegalArgumentException, UnsupportedOperationException",
        "int letter(int, int) throws IllegalArgumentException, UnsupportedOperationException",
        "int load(int, int) throws IndexOutOfBoundsException, UnsupportedOperationException",
        "int loadAll(int) throws IndexOutOfBoundsException, UnsupportedOperationException",
        "int launch(int) throws IndexOutOfBoundsException, UnsupportedOperationException",
        "int drop(int, int) throws IndexOutOfBoundsException, IllegalArgumentException, UnsupportedOperationException",
        "int pass(int) throws IllegalArgumentException",
        "int balloonOf(int, int) throws IndexOutOfBoundsException, IllegalArgumentException",
        "int letterOf(int, int) throws IndexOutOfBoundsException, IllegalArgumentException",
        "int weightAgain(int) throws IndexOutOfBoundsException",
        "int waiting(int) throws NoSuchElementException",
        "int word(int) throws IndexOutOfBoundsException, NoSuchElementException",
        "char sign(int) throws IndexOutOfBoundsException",
        "boolean isWithin(int, int) throws IndexOutOfBoundsException",
        "int endsIn(int) throws IndexOutOfBoundsException, NoSuchElementException",
        "int ends(int, int) throws IndexOutOfBoundsException, IllegalArgumentException, NoSuchElementException",
        "int bestDrop(int) throws IndexOutOfBoundsException, NoSuchElementException",
        "int append(char) throws IllegalStateException",
        "int read() throws IllegalArgumentException, UnsupportedOperationException",
        "int errorPosition()",
        "int refusal(boolean) throws NoSuchElementException",
        "int account(int) throws IllegalArgumentException",
        "boolean isWell()",
        "double meanDistance() throws ArithmeticException",
        "float share() throws ArithmeticException",
        "int undo() throws IllegalStateException",
        "int save()",
        "int restore() throws IllegalStateException"};

    private static int wrong = 0;

    public static void main(String[] args) {
        Class<SiegePost> face = SiegePost.class;
        check(face.getModifiers() == (Modifier.PUBLIC | Modifier.FINAL), "the class is public and final");
        check(face.getSuperclass() == Object.class && face.getInterfaces().length == 0, "it extends nothing");
        methods(face);
        for (Constructor<?> constructor : face.getDeclaredConstructors()) {
            check(Modifier.isPublic(constructor.getModifiers()) && constructor.getParameterCount() == 0, "" + constructor);
            check(constructor.getExceptionTypes().length == 0, constructor + " throws nothing");
        }
        for (Field field : face.getDeclaredFields()) {
            check(Modifier.isPrivate(field.getModifiers()), field + " is private");
        }
        for (Class<?> inside : face.getDeclaredClasses()) {
            int modifiers = inside.getModifiers();
            check(Modifier.isStatic(modifiers) && !Modifier.isPublic(modifiers) && !Modifier.isProtected(modifiers), "" + inside);
            limits(inside);
        }
        limits(face);
        check(face.getDeclaredClasses().length < 12, "some twelve classes");
        System.out.println(wrong == 0 ? "the face is as due" : wrong + " things are not as due");
        if (wrong != 0) {
            System.exit(1);
        }
    }

    private static void check(boolean isRight, String what) {
        if (!isRight) {
            wrong++;
            System.out.println("not so: " + what);
        }
    }

    private static void methods(Class<?> face) {
        Set<String> due = new TreeSet<>(Arrays.asList(FACE));
        Set<String> names = new TreeSet<>();
        due.forEach(row -> names.add(row.substring(row.indexOf(' ') + 1, row.indexOf('('))));
        for (Method method : face.getDeclaredMethods()) {
            if (Modifier.isPrivate(method.getModifiers())) {
                check(!names.contains(method.getName()), "no private method bears the name " + method.getName());
            } else {
                check(method.getModifiers() == Modifier.PUBLIC, method + " is public alone");
                check(due.remove(rowOf(method)), rowOf(method) + " is of the face");
            }
        }
        check(due.isEmpty(), "nothing is missing of " + due);
    }

    private static String rowOf(Method method) {
        String row = method.getReturnType().getSimpleName() + " " + method.getName() + "(" + listOf(method.getParameterTypes()) + ")";
        return method.getExceptionTypes().length == 0 ? row : row + " throws " + listOf(method.getExceptionTypes());
    }

    private static String listOf(Class<?>[] types) {
        StringBuilder list = new StringBuilder();
        for (Class<?> type : types) {
            list.append(list.length() == 0 ? "" : ", ").append(type.getSimpleName());
        }
        return list.toString();
    }

    private static void limits(Class<?> part) {
        int fields = 0;
        for (Field field : part.getDeclaredFields()) {
            fields += Modifier.isStatic(field.getModifiers()) ? 0 : 1;
            check(!Modifier.isStatic(field.getModifiers()) || Modifier.isFinal(field.getModifiers()), field + " is final");
        }
        check(fields <= 20, part + " has some twenty fields");
        for (Method method : part.getDeclaredMethods()) {
            check(method.getParameterCount() <= 7, method + " has at most seven parameters");
            check(!method.getName().contains("lambda$"), part + " has no lambda");
        }
    }
}
