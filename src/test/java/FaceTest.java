import java.lang.reflect.Constructor;
import java.lang.reflect.Field;
import java.lang.reflect.Method;
import java.lang.reflect.Modifier;
import java.nio.file.Files;
import java.nio.file.Path;
import java.util.Set;
import java.util.TreeSet;

/** The public face: its members as the document lists them, and nothing beside them. */
final class FaceTest {
    private static final Path DOCUMENT = Path.of("../shared/DOC.md");

    private FaceTest() {
    }

    static void run() throws Exception {
        constants();
        members();
        methodsOfTheDocument();
        classesInside();
    }

    private static void constants() {
        Check.begin("the constants");
        Check.same("NONE", HotelNights.NONE, -1);
        Check.same("HELD", HotelNights.HELD, 0);
        Check.same("PAID", HotelNights.PAID, 1);
        Check.same("CANCELLED", HotelNights.CANCELLED, 2);
        Check.same("SENT", HotelNights.SENT, 3);
        Check.same("OVER", HotelNights.OVER, 4);
        Check.same("GUESTS", HotelNights.GUESTS, 0);
        Check.same("DEPOSITS", HotelNights.DEPOSITS, 1);
        Check.same("INCOME", HotelNights.INCOME, 2);
        Check.same("TAXES", HotelNights.TAXES, 3);
    }

    private static void members() {
        Check.begin("the face");
        Check.same("modifiers", HotelNights.class.getModifiers(), Modifier.PUBLIC | Modifier.FINAL);
        Constructor<?>[] constructors = HotelNights.class.getDeclaredConstructors();
        Check.same("constructors", constructors.length, 1);
        Check.same("modifiers of the constructor", constructors[0].getModifiers(), Modifier.PUBLIC);
        Set<String> constants = new TreeSet<>();
        for (Field field : HotelNights.class.getDeclaredFields()) {
            if (!Modifier.isPrivate(field.getModifiers())) {
                constants.add(field.getName());
            }
        }
        Check.same("fields that are not private", constants, Set.of("NONE", "HELD", "PAID", "CANCELLED", "SENT",
                "OVER", "GUESTS", "DEPOSITS", "INCOME", "TAXES"));
    }

    /** Compares each method with the line of the document that declares it. */
    private static void methodsOfTheDocument() throws Exception {
        Set<String> due = new TreeSet<>();
        for (String line : Files.readAllLines(DOCUMENT)) {
            if (line.startsWith("    public ") && line.contains("(") && !line.contains("HotelNights(")) {
                due.add(withoutNames(line.trim()));
            }
        }
        Set<String> got = new TreeSet<>();
        Set<String> publicNames = new TreeSet<>();
        for (Method method : HotelNights.class.getDeclaredMethods()) {
            if (!Modifier.isPrivate(method.getModifiers()) && !method.isSynthetic()) {
                got.add(told(method));
                publicNames.add(method.getName());
            }
        }
        Check.same("number of methods", due.size(), 44);
        Check.same("methods", got, due);
        for (Method method : HotelNights.class.getDeclaredMethods()) {
            boolean isShared = Modifier.isPrivate(method.getModifiers()) && publicNames.contains(method.getName());
            Check.same("private method with a public name: " + method.getName(), isShared, false);
        }
    }

    /** "public int ask(int kind) throws X;" becomes "int ask(int) throws X". */
    private static String withoutNames(String line) {
        String head = line.substring("public ".length(), line.indexOf('('));
        String inside = line.substring(line.indexOf('(') + 1, line.indexOf(')'));
        StringBuilder types = new StringBuilder();
        for (String parameter : inside.isEmpty() ? new String[0] : inside.split(", ")) {
            types.append(types.length() == 0 ? "" : ", ").append(parameter.split(" ")[0]);
        }
        return head + "(" + types + ")" + line.substring(line.indexOf(')') + 1).replace(";", "");
    }

    private static String told(Method method) {
        StringBuilder text = new StringBuilder();
        text.append(method.getReturnType().getName()).append(' ').append(method.getName()).append('(');
        Class<?>[] types = method.getParameterTypes();
        for (int i = 0; i < types.length; i++) {
            text.append(i == 0 ? "" : ", ").append(types[i].getName());
        }
        text.append(')');
        Class<?>[] exceptions = method.getExceptionTypes();
        for (int i = 0; i < exceptions.length; i++) {
            text.append(i == 0 ? " throws " : ", ").append(exceptions[i].getSimpleName());
        }
        return text.toString();
    }

    private static void classesInside() {
        Check.begin("the classes inside");
        for (Class<?> inside : HotelNights.class.getDeclaredClasses()) {
            int modifiers = inside.getModifiers();
            boolean isRight = Modifier.isStatic(modifiers) && !Modifier.isPublic(modifiers)
                    && !Modifier.isProtected(modifiers);
            Check.same(inside.getSimpleName() + " is static, and private or package-visible", isRight, true);
        }
    }
}
