import java.lang.reflect.Field;
import java.lang.reflect.Member;
import java.lang.reflect.Method;
import java.lang.reflect.Modifier;
import java.util.Arrays;
import java.util.Set;
import java.util.TreeSet;
import java.util.stream.Collectors;

/** The public face, and the rules of LANGUAGE.md on members and static state. */
public final class FaceTest {
    private static final Check check = new Check();

    public static void main(String[] args) {
        methods();
        check.due("the class", Modifier.PUBLIC | Modifier.FINAL, WayFinder.class.getModifiers());
        check.due("constructors", "[public WayFinder()]",
                Arrays.toString(WayFinder.class.getDeclaredConstructors()));
        otherMembersArePrivate();
        noNameIsSharedWithTheFace(WayFinder.class);
        staticFieldsAreFinal(WayFinder.class);
        for (Class<?> inside : WayFinder.class.getDeclaredClasses()) {
            isStaticAndHidden(inside);
            noNameIsSharedWithTheFace(inside);
            staticFieldsAreFinal(inside);
        }
        check.end();
    }

    private static void methods() {
        Set<String> want = new TreeSet<>(Set.of(
                "int instr(int,int,int,int) IllegalArgumentException IllegalStateException",
                "int undo() NoSuchElementException",
                "int width(int) IllegalArgumentException",
                "int run(int,int) IllegalArgumentException",
                "int last(int) NoSuchElementException IllegalArgumentException",
                "int explore() IllegalStateException",
                "int way(int,int) NoSuchElementException IllegalArgumentException",
                "int decision(int,int) NoSuchElementException",
                "int match(int,int) IllegalArgumentException NoSuchElementException",
                "int example(int) IllegalArgumentException NoSuchElementException",
                "int covered()",
                "int count(int) IllegalArgumentException"));
        Set<String> got = new TreeSet<>();
        for (Method method : WayFinder.class.getDeclaredMethods()) {
            if (Modifier.isPublic(method.getModifiers())) {
                got.add(textOf(method));
            }
        }
        check.due("public methods", want.toString(), got.toString());
    }

    private static String textOf(Method method) {
        String parameters = Arrays.stream(method.getParameterTypes())
                .map(Class::getSimpleName).collect(Collectors.joining(","));
        String thrown = Arrays.stream(method.getExceptionTypes())
                .map(kind -> " " + kind.getSimpleName()).collect(Collectors.joining());
        return method.getReturnType().getSimpleName() + " " + method.getName()
                + "(" + parameters + ")" + thrown;
    }

    private static void otherMembersArePrivate() {
        for (Method method : WayFinder.class.getDeclaredMethods()) {
            if (!Modifier.isPublic(method.getModifiers())) {
                isPrivate(method);
            }
        }
        for (Field field : WayFinder.class.getDeclaredFields()) {
            isPrivate(field);
        }
    }

    private static void isPrivate(Member member) {
        check.due(member.getName() + " is private", "true",
                "" + Modifier.isPrivate(member.getModifiers()));
    }

    private static void isStaticAndHidden(Class<?> inside) {
        int modifiers = inside.getModifiers();
        check.due(inside.getName() + " is static", "true", "" + Modifier.isStatic(modifiers));
        check.due(inside.getName() + " is public or protected", "false",
                "" + (Modifier.isPublic(modifiers) || Modifier.isProtected(modifiers)));
    }

    private static void noNameIsSharedWithTheFace(Class<?> kind) {
        Set<String> face = Arrays.stream(WayFinder.class.getMethods())
                .map(Method::getName).collect(Collectors.toSet());
        for (Method method : kind.getDeclaredMethods()) {
            if (!Modifier.isPublic(method.getModifiers())) {
                check.due(kind.getName() + "." + method.getName() + " bears a name of the face",
                        "false", "" + face.contains(method.getName()));
            }
        }
    }

    private static void staticFieldsAreFinal(Class<?> kind) {
        for (Field field : kind.getDeclaredFields()) {
            int modifiers = field.getModifiers();
            check.due(kind.getName() + "." + field.getName() + " is final or no static field",
                    "true", "" + (Modifier.isFinal(modifiers) || !Modifier.isStatic(modifiers)));
        }
    }
}
