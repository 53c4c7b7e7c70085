import java.lang.reflect.Constructor;
import java.lang.reflect.Field;
import java.lang.reflect.Member;
import java.lang.reflect.Method;
import java.lang.reflect.Modifier;
import java.util.ArrayList;
import java.util.Arrays;
import java.util.List;
import java.util.Set;
import java.util.TreeSet;

/** The public face of the document and the rules 1 and 5 of LANGUAGE.md that can be seen from outside. */
public final class FaceTest {
    private static final Checks CHECKS = new Checks();

    private static final Set<String> FACE = new TreeSet<>(Arrays.asList(
            "int begin(int, int)", "int set(int, int)", "int arrive(int)", "int list()", "int move(int, int, int)",
            "int test(int)", "int pause(int)", "int depart(int)", "int makeUp(int)", "int undo()", "int write(int)",
            "int wipe()", "int fault(int)", "int told(int)", "int setting(int)", "int track(int, int)",
            "int wagon(int, int, int)", "int train(int)", "int find(int, int)", "float mean()",
            "int cost(int, int, int)", "int cheapest(int, int)", "int keep(int)", "int back(int)",
            "int BAD", "int STATE", "int FULL", "int NONE", "new()"));

    private FaceTest() {
    }

    public static void main(String[] args) {
        CHECKS.due("BAD", ShuntYard.BAD, -1);
        CHECKS.due("STATE", ShuntYard.STATE, -2);
        CHECKS.due("FULL", ShuntYard.FULL, -3);
        CHECKS.due("NONE", ShuntYard.NONE, -9);
        dueTrue("the class is public and final", Modifier.isPublic(ShuntYard.class.getModifiers())
                && Modifier.isFinal(ShuntYard.class.getModifiers()));
        dueTrue("the class extends Object alone", ShuntYard.class.getSuperclass() == Object.class
                && ShuntYard.class.getInterfaces().length == 0);
        membersAreThoseOfTheFace();
        for (Class<?> inside : ShuntYard.class.getDeclaredClasses()) {
            int modifiers = inside.getModifiers();
            dueTrue(inside + " is static and not public", Modifier.isStatic(modifiers)
                    && !Modifier.isPublic(modifiers) && !Modifier.isProtected(modifiers));
            staticFieldsAreFinal(inside);
            noMethodOfTheFace(inside);
        }
        staticFieldsAreFinal(ShuntYard.class);
        CHECKS.close();
    }

    private static void dueTrue(String what, boolean holds) {
        CHECKS.dueTrue(what, holds);
    }

    private static void membersAreThoseOfTheFace() {
        Set<String> seen = new TreeSet<>();
        Set<String> publicNames = new TreeSet<>();
        List<Member> members = new ArrayList<>();
        members.addAll(List.of(ShuntYard.class.getDeclaredFields()));
        members.addAll(List.of(ShuntYard.class.getDeclaredMethods()));
        members.addAll(List.of(ShuntYard.class.getDeclaredConstructors()));
        for (Member member : members) {
            if (Modifier.isPublic(member.getModifiers())) {
                seen.add(told(member));
                publicNames.add(member.getName());
            }
        }
        dueTrue("the face is " + seen + ", due is " + FACE, seen.equals(FACE));
        for (Member member : members) {
            int modifiers = member.getModifiers();
            dueTrue(member + " is public or private", Modifier.isPublic(modifiers)
                    || Modifier.isPrivate(modifiers) || member.isSynthetic());
            dueTrue(member + " has no public one's name", !(member instanceof Method)
                    || Modifier.isPublic(modifiers) || !publicNames.contains(member.getName()));
        }
    }

    private static String told(Member member) {
        if (member instanceof Field field) {
            return field.getType() + " " + field.getName();
        }
        if (member instanceof Constructor<?> made) {
            return "new" + parameters(made.getParameterTypes());
        }
        Method method = (Method) member;
        return method.getReturnType() + " " + method.getName() + parameters(method.getParameterTypes());
    }

    private static String parameters(Class<?>[] types) {
        String all = Arrays.toString(types);
        return "(" + all.substring(1, all.length() - 1) + ")";
    }

    private static void staticFieldsAreFinal(Class<?> some) {
        for (Field field : some.getDeclaredFields()) {
            dueTrue(field + " is final or no static one", !Modifier.isStatic(field.getModifiers())
                    || Modifier.isFinal(field.getModifiers()));
        }
    }

    private static void noMethodOfTheFace(Class<?> inside) {
        for (Method method : inside.getDeclaredMethods()) {
            dueTrue(method + " has a name of its own",
                    FACE.stream().noneMatch(face -> face.contains(" " + method.getName() + "(")));
        }
    }
}
