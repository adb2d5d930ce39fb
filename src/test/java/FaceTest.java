import java.lang.reflect.Constructor;
import java.lang.reflect.Field;
import java.lang.reflect.Member;
import java.lang.reflect.Method;
import java.lang.reflect.Modifier;
import java.nio.file.Files;
import java.nio.file.Path;
import java.util.Arrays;
import java.util.Set;
import java.util.TreeSet;

/** The public face is the document's and no more, and the source keeps off what LANGUAGE.md rules out. */
public final class FaceTest {
    private static final String[] METHODS = {
        "boolean part(int,int,int)", "boolean flex(int,int,int,int)", "boolean share(int,int,int)",
        "boolean release(int,int,int)", "boolean creep(int,int)", "boolean after(int,int)", "long stage(int)",
        "boolean add(int)", "boolean load(int,int)", "boolean support(int,boolean)", "boolean end(int)",
        "long level(int,int)", "long of(int,int)", "long carries(int,int)", "long survey(int,int,int)",
        "boolean most(int)", "long rule(int,int,int,int)", "long broken(int)", "boolean shift(int,int)",
        "long redo(int)", "long best()", "long order(int)", "long told(int)", "int check()"};
    private static final String[] RULED_OUT = {"->", "::", "Exact(", "finally", "synchronized", "assert ", "static {",
        "package ", "getMessage", "Exception e)", "NullPointer", "ClassCast", "NegativeArraySize", "ArrayStore",
        "ArrayIndexOutOf", "Throwable", "System.out", "System.nano", "System.current", "Random", "Thread"};
    private static final Set<String> LIBRARY = Set.of("import java.util.Arrays;", "import java.util.ArrayList;",
        "import java.util.List;", "import java.util.Iterator;", "import java.util.NoSuchElementException;");

    private FaceTest() {
    }

    public static void main(String[] args) throws Exception {
        Due.is("NONE", StageSteps.NONE, -1000000000000000000L);
        Due.yes("the class is public and final", StageSteps.class.getModifiers() == (Modifier.PUBLIC | Modifier.FINAL));
        methods();
        others();
        source();
        Due.finish("FaceTest");
    }

    private static void methods() {
        Set<String> open = new TreeSet<>();
        Set<String> openNames = new TreeSet<>();
        for (Method method : StageSteps.class.getDeclaredMethods()) {
            if (!Modifier.isPrivate(method.getModifiers())) {
                open.add(text(method));
                openNames.add(method.getName());
                Due.is("a method of the face is just public: " + method, method.getModifiers(), Modifier.PUBLIC);
            }
        }
        Due.yes("the methods of the face: " + open, open.equals(new TreeSet<>(Arrays.asList(METHODS))));
        for (Method method : StageSteps.class.getDeclaredMethods()) {
            boolean hidden = Modifier.isPrivate(method.getModifiers());
            Due.no("a private method with a public one's name: " + method, hidden && openNames.contains(method.getName()));
        }
    }

    private static String text(Method method) {
        StringBuilder types = new StringBuilder();
        for (Class<?> type : method.getParameterTypes()) {
            types.append(types.length() == 0 ? "" : ",").append(type.getName());
        }
        return method.getReturnType().getName() + " " + method.getName() + "(" + types + ")";
    }

    private static void others() {
        for (Constructor<?> made : StageSteps.class.getDeclaredConstructors()) {
            Due.is("the constructor: " + made, made.getModifiers(), Modifier.PUBLIC);
            Due.yes("its argument", Arrays.equals(made.getParameterTypes(), new Class<?>[] {int.class}));
        }
        for (Field field : StageSteps.class.getDeclaredFields()) {
            Due.yes("a field is NONE or private: " + field, field.getName().equals("NONE") || isPrivate(field));
            boolean isStatic = Modifier.isStatic(field.getModifiers());
            Due.yes("a static field is final: " + field, !isStatic || Modifier.isFinal(field.getModifiers()));
        }
        for (Class<?> inside : StageSteps.class.getDeclaredClasses()) {
            Due.yes("a class inside is static: " + inside, Modifier.isStatic(inside.getModifiers()));
            Due.no("a class inside is not public: " + inside, Modifier.isPublic(inside.getModifiers()));
            Due.yes("a class has some twenty fields: " + inside, inside.getDeclaredFields().length <= 20);
        }
        Due.yes("some twelve classes", StageSteps.class.getDeclaredClasses().length < 12);
    }

    private static boolean isPrivate(Member member) {
        return Modifier.isPrivate(member.getModifiers());
    }

    private static void source() throws Exception {
        String source = Files.readString(Path.of("src/main/java/StageSteps.java"));
        for (String word : RULED_OUT) {
            Due.no("the source has '" + word + "'", source.contains(word));
        }
        for (String line : source.split("\n")) {
            Due.no("another library: " + line, line.startsWith("import ") && !LIBRARY.contains(line));
        }
    }
}
