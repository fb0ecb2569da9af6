import java.lang.reflect.Constructor;
import java.lang.reflect.Field;
import java.lang.reflect.Method;
import java.lang.reflect.Modifier;
import java.util.Arrays;
import java.util.TreeSet;

/** The public face: the class, its constant, its constructor and its methods, and nothing else that can be seen. */
public final class FaceTest {
    private static final String[] METHODS = {
        "boolean font(int,int,int)", "boolean open(boolean)", "boolean character(int,int,int,int,int)",
        "boolean rule(int,int,int,int)", "boolean space(int)", "boolean close(int)", "boolean put(int,int,boolean)",
        "int ship(int) throws java.lang.IllegalStateException,java.lang.UnsupportedOperationException",
        "int finish() throws java.lang.IllegalStateException", "int byteAt(int)", "int count(int)",
        "int size(int,int)"
    };

    public static void main(String[] args) throws Exception {
        Due due = new Due("FaceTest");
        due.same("NONE", PageFile.NONE, -1);
        due.same("modifiers of the class", PageFile.class.getModifiers(), Modifier.PUBLIC | Modifier.FINAL);
        TreeSet<String> found = new TreeSet<>();
        TreeSet<String> publicNames = new TreeSet<>();
        for (Method m : PageFile.class.getDeclaredMethods()) {
            if (Modifier.isPublic(m.getModifiers())) {
                found.add(m.toString().replace("public ", "").replace("PageFile.", ""));
                publicNames.add(m.getName());
            } else {
                due.yes("only private beside the face: " + m, Modifier.isPrivate(m.getModifiers()));
            }
        }
        due.yes("methods " + found, found.equals(new TreeSet<>(Arrays.asList(METHODS))));
        for (Method m : PageFile.class.getDeclaredMethods()) {
            if (Modifier.isPrivate(m.getModifiers())) {
                due.no("a private method bears a public one's name: " + m, publicNames.contains(m.getName()));
            }
        }
        for (Field f : PageFile.class.getDeclaredFields()) {
            boolean constant = f.getName().equals("NONE");
            due.same("public: " + f, Modifier.isPublic(f.getModifiers()) ? 1 : 0, constant ? 1 : 0);
            due.yes("NONE or private: " + f, constant || Modifier.isPrivate(f.getModifiers()));
            due.yes("a static field is final: " + f,
                    !Modifier.isStatic(f.getModifiers()) || Modifier.isFinal(f.getModifiers()));
        }
        Constructor<?>[] makers = PageFile.class.getDeclaredConstructors();
        due.same("constructors", makers.length, 1);
        due.same("parameters of the constructor", makers[0].getParameterCount(), 0);
        due.yes("public constructor", Modifier.isPublic(makers[0].getModifiers()));
        for (Class<?> inside : PageFile.class.getDeclaredClasses()) {
            due.yes("static inside: " + inside, Modifier.isStatic(inside.getModifiers()));
            due.no("public inside: " + inside, Modifier.isPublic(inside.getModifiers()));
        }
        due.end();
    }
}
