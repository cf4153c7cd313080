import java.lang.reflect.Constructor;
import java.lang.reflect.Field;
import java.lang.reflect.Method;
import java.lang.reflect.Modifier;
import java.util.Arrays;
import java.util.Set;
import java.util.TreeSet;

/** The public face of the document, no more and no less, and rule 1 of LANGUAGE.md. */
public final class FaceTest {
    private static final Expect expect = new Expect();

    public static void main(String[] args) {
        Set<String> due = new TreeSet<>(Arrays.asList("int hand(boolean)", "int shelf(boolean)",
                "boolean seals(int, int)", "int thing(int, int)", "int pass(int)",
                "int slip(int, int, int, int, int, int, int)", "int fault(int)", "int handing(int, int, int, int)",
                "int yes(int, int, int)", "boolean no(int, int)", "int about(int)", "int slipOf(int, int)",
                "int where(int, int, int, int)", "int chain(int, int)", "int gap(int, int, int)", "int breaks(int)",
                "int due(int, int)", "int freeze()", "boolean alter(int, int, int)", "int check()", "boolean thaw()"));
        Set<String> found = new TreeSet<>();
        Set<String> names = new TreeSet<>();
        Class<CustodyRoom> face = CustodyRoom.class;
        for (Method method : face.getDeclaredMethods()) {
            if (!Modifier.isPrivate(method.getModifiers())) {
                found.add(told(method));
                names.add(method.getName());
            }
        }
        expect.yes("the methods of the face: " + found, found.equals(due));
        for (Method method : face.getDeclaredMethods()) {
            boolean hidden = Modifier.isPrivate(method.getModifiers());
            expect.no(method.getName() + " bears a public name", hidden && names.contains(method.getName()));
        }
        for (Field field : face.getDeclaredFields()) {
            boolean constant = field.getName().equals("NONE");
            expect.same(field.getName() + " is private", Modifier.isPrivate(field.getModifiers()) ? 1 : 0,
                    constant ? 0 : 1);
            expect.yes(field.getName() + " is final if static",
                    !Modifier.isStatic(field.getModifiers()) || Modifier.isFinal(field.getModifiers()));
        }
        expect.same("NONE", CustodyRoom.NONE, -1);
        Constructor<?>[] makers = face.getDeclaredConstructors();
        expect.same("constructors", makers.length, 1);
        expect.yes("public, without arguments",
                Modifier.isPublic(makers[0].getModifiers()) && makers[0].getParameterCount() == 0);
        expect.yes("public and final",
                Modifier.isPublic(face.getModifiers()) && Modifier.isFinal(face.getModifiers()));
        for (Class<?> inside : face.getDeclaredClasses()) {
            expect.yes(inside.getName() + " is static and not public",
                    Modifier.isStatic(inside.getModifiers()) && !Modifier.isPublic(inside.getModifiers()));
            for (Method method : inside.getDeclaredMethods()) {
                expect.no(method.getName() + " bears a public name", names.contains(method.getName()));
            }
        }
        expect.end();
    }

    private static String told(Method method) {
        StringBuilder text = new StringBuilder();
        text.append(method.getReturnType()).append(' ').append(method.getName()).append('(');
        Class<?>[] parameters = method.getParameterTypes();
        for (int i = 0; i < parameters.length; i++) {
            text.append(i == 0 ? "" : ", ").append(parameters[i]);
        }
        return text.append(')').toString();
    }
}
