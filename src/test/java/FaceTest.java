import java.io.IOException;
import java.lang.reflect.Constructor;
import java.lang.reflect.Field;
import java.lang.reflect.Method;
import java.lang.reflect.Modifier;
import java.nio.file.Files;
import java.nio.file.Path;
import java.util.Set;
import java.util.TreeSet;
import java.util.regex.Matcher;
import java.util.regex.Pattern;

/** The public face of the document, no more and no less, and rule 1 of LANGUAGE.md. */
public final class FaceTest {
    private static final Expect expect = new Expect();
    private static final Pattern METHOD = Pattern.compile(" {4}public (\\w+ \\w+)\\((.*)\\);");

    public static void main(String[] args) throws IOException {
        Set<String> due = faceOfDocument();
        expect.same("methods of the document's face", due.size(), 21);
        Set<String> found = new TreeSet<>();
        Set<String> names = new TreeSet<>();
        Class<CustodyRoom> face = CustodyRoom.class;
        for (Method method : face.getDeclaredMethods()) {
            if (!Modifier.isPrivate(method.getModifiers())) {
                found.add(told(method));
                names.add(method.getName());
            }
        }
        expect.yes("the methods of the face: " + found, found.equals(due));
        for (Method method : face.getDeclaredMethods()) {
            boolean hidden = Modifier.isPrivate(method.getModifiers());
            expect.no(method.getName() + " bears a public name", hidden && names.contains(method.getName()));
        }
        for (Field field : face.getDeclaredFields()) {
            boolean constant = field.getName().equals("NONE");
            expect.same(field.getName() + " is private", Modifier.isPrivate(field.getModifiers()) ? 1 : 0,
                    constant ? 0 : 1);
            expect.yes(field.getName() + " is final if static",
                    !Modifier.isStatic(field.getModifiers()) || Modifier.isFinal(field.getModifiers()));
        }
        expect.same("NONE", CustodyRoom.NONE, -1);
        Constructor<?>[] makers = face.getDeclaredConstructors();
        expect.same("constructors", makers.length, 1);
        expect.yes("public, without arguments",
                Modifier.isPublic(makers[0].getModifiers()) && makers[0].getParameterCount() == 0);
        expect.yes("public and final",
                Modifier.isPublic(face.getModifiers()) && Modifier.isFinal(face.getModifiers()));
        for (Class<?> inside : face.getDeclaredClasses()) {
            expect.yes(inside.getName() + " is static and not public",
                    Modifier.isStatic(inside.getModifiers()) && !Modifier.isPublic(inside.getModifiers()));
            for (Method method : inside.getDeclaredMethods()) {
                expect.no(method.getName() + " bears a public name", names.contains(method.getName()));
            }
        }
        expect.end();
    }

    /** The document's lines of the face, with the parameters' types alone. */
    private static Set<String> faceOfDocument() throws IOException {
        Set<String> face = new TreeSet<>();
        for (String line : Files.readAllLines(Path.of("../shared/DOC.md"))) {
            Matcher method = METHOD.matcher(line);
            if (method.matches()) {
                face.add(method.group(1) + "(" + method.group(2).replaceAll(" \\w+(?=,|$)", "") + ")");
            }
        }
        return face;
    }

    private static String told(Method method) {
        StringBuilder text = new StringBuilder();
        text.append(method.getReturnType()).append(' ').append(method.getName()).append('(');
        Class<?>[] parameters = method.getParameterTypes();
        for (int i = 0; i < parameters.length; i++) {
            text.append(i == 0 ? "" : ", ").append(parameters[i]);
        }
        return text.append(')').toString();
    }
}
