import java.lang.reflect.Constructor;
import java.lang.reflect.Executable;
import java.lang.reflect.Field;
import java.lang.reflect.Member;
import java.lang.reflect.Method;
import java.lang.reflect.Modifier;
import java.util.ArrayList;
import java.util.List;
import java.util.Set;
import java.util.TreeSet;

/** The public face: all that the document writes out is there just so, and nothing else but what is private. */
public final class FaceTest {
    public static void main(String[] args) throws IllegalAccessException {
        Set<String> told = new TreeSet<>();
        for (String line : Document.face()) {
            told.add(withoutNames(line));
        }
        Check.due("members told, and the class itself", 30, told.size());
        Set<String> there = publicFace();
        for (String line : told) {
            Check.due(line, true, there.contains(line));
        }
        for (String line : there) {
            Check.due("only the document's: " + line, true, told.contains(line));
        }
        allElseIsPrivate();
        noPublicNameIsPrivate();
        Check.end();
    }

    /** "int feed(int a, int b)" is "int feed(int, int)" by the machine, which keeps no names. */
    private static String withoutNames(String line) {
        return line.replaceAll("(int|boolean) \\w+([,)])", "$1$2");
    }

    private static Set<String> publicFace() throws IllegalAccessException {
        Set<String> face = new TreeSet<>();
        face.add(Modifier.toString(ClockLodgers.class.getModifiers()) + " class " + ClockLodgers.class.getSimpleName());
        for (Field field : ClockLodgers.class.getFields()) {
            face.add(Modifier.toString(field.getModifiers()) + " " + field.getType() + " " + field.getName()
                    + " = " + field.get(null));
        }
        for (Constructor<?> made : ClockLodgers.class.getConstructors()) {
            face.add(head(made) + ClockLodgers.class.getSimpleName() + rest(made));
        }
        for (Method method : ClockLodgers.class.getDeclaredMethods()) {
            if (Modifier.isPublic(method.getModifiers())) {
                face.add(head(method) + method.getReturnType() + " " + method.getName() + rest(method));
            }
        }
        return face;
    }

    private static String head(Executable what) {
        return Modifier.toString(what.getModifiers()) + " ";
    }

    private static String rest(Executable what) {
        String thrown = names(what.getExceptionTypes());
        return "(" + names(what.getParameterTypes()) + ")" + (thrown.isEmpty() ? "" : " throws " + thrown);
    }

    private static String names(Class<?>[] types) {
        List<String> names = new ArrayList<>();
        for (Class<?> type : types) {
            names.add(type.getSimpleName());
        }
        return String.join(", ", names);
    }

    private static void allElseIsPrivate() {
        List<Member> members = new ArrayList<>(List.of(ClockLodgers.class.getDeclaredFields()));
        members.addAll(List.of(ClockLodgers.class.getDeclaredMethods()));
        members.addAll(List.of(ClockLodgers.class.getDeclaredConstructors()));
        for (Member member : members) {
            int how = member.getModifiers();
            Check.due("public or private: " + member, true,
                    Modifier.isPublic(how) || Modifier.isPrivate(how) || member.isSynthetic());
        }
        for (Class<?> inside : ClockLodgers.class.getDeclaredClasses()) {
            int how = inside.getModifiers();
            Check.due("a class inside: " + inside, true,
                    Modifier.isStatic(how) && !Modifier.isPublic(how) && !Modifier.isProtected(how));
        }
    }

    private static void noPublicNameIsPrivate() {
        Set<String> names = new TreeSet<>();
        for (Method method : ClockLodgers.class.getDeclaredMethods()) {
            if (Modifier.isPublic(method.getModifiers())) {
                names.add(method.getName());
            }
        }
        List<Class<?>> classes = new ArrayList<>(List.of(ClockLodgers.class.getDeclaredClasses()));
        classes.add(ClockLodgers.class);
        for (Class<?> inside : classes) {
            for (Method method : inside.getDeclaredMethods()) {
                Check.due("a private method with a public one's name: " + method, false,
                        Modifier.isPrivate(method.getModifiers()) && names.contains(method.getName()));
            }
        }
    }
}
