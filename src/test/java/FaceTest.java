import java.io.IOException;
import java.lang.reflect.Constructor;
import java.lang.reflect.Field;
import java.lang.reflect.Member;
import java.lang.reflect.Method;
import java.lang.reflect.Modifier;
import java.nio.file.Files;
import java.nio.file.Path;
import java.util.Arrays;
import java.util.HashSet;
import java.util.List;
import java.util.NoSuchElementException;
import java.util.Set;
import java.util.TreeSet;
import java.util.regex.Matcher;
import java.util.regex.Pattern;

/** The face as the document writes it out, and the rules of LANGUAGE.md that can be seen from outside the methods. */
public final class FaceTest extends Checks {
    private static final Path DOCUMENT = Path.of("../shared/DOC.md");
    private static final Path SOURCE = Path.of("src/main/java/WeekBank.java");

    public static void main(String[] args) throws IOException {
        theFaceIsTheDocuments();
        theClassAndItsConstructor();
        theConstant();
        onlyOfThrows();
        nothingElseIsSeen();
        noPrivateMethodBearsAPublicName();
        staticFieldsAreFinal();
        classesInside();
        parametersOfMethods();
        wordsThatAreRuledOut();
        finish("the face is the document's");
    }

    private static void theFaceIsTheDocuments() throws IOException {
        about("The public face");
        Set<String> due = new TreeSet<>();
        Pattern line = Pattern.compile("^ {4}public (int|boolean) (\\w+)\\((.*?)\\)", Pattern.MULTILINE);
        Matcher found = line.matcher(Files.readString(DOCUMENT));
        while (found.find()) {
            due.add(found.group(1) + " " + found.group(2) + "(" + typesOf(found.group(3)) + ")");
        }
        Set<String> there = new TreeSet<>();
        for (Method method : WeekBank.class.getDeclaredMethods()) {
            if (Modifier.isPublic(method.getModifiers())) {
                there.add(method.getReturnType() + " " + method.getName() + "(" + types(method) + ")");
                is("static " + method.getName(), Modifier.isStatic(method.getModifiers()), false);
            }
        }
        is("how many methods", due.size(), 24);
        is("the methods", there.toString(), due.toString());
    }

    private static String typesOf(String parameters) {
        return parameters.replaceAll("(int|boolean) \\w+", "$1").replace(" ", "");
    }

    private static String types(Method method) {
        StringBuilder types = new StringBuilder();
        for (Class<?> type : method.getParameterTypes()) {
            types.append(types.length() == 0 ? "" : ",").append(type);
        }
        return types.toString();
    }

    private static void theClassAndItsConstructor() {
        about("public final class, WeekBank()");
        is("public final", Modifier.toString(WeekBank.class.getModifiers()), "public final");
        is("package", WeekBank.class.getPackageName(), "");
        is("above it", WeekBank.class.getSuperclass().getName(), "java.lang.Object");
        is("interfaces", WeekBank.class.getInterfaces().length, 0);
        Constructor<?>[] constructors = WeekBank.class.getDeclaredConstructors();
        is("constructors", constructors.length, 1);
        is("it", constructors[0].toString(), "public WeekBank()");
    }

    private static void theConstant() {
        about("NONE = -1");
        Set<String> there = new TreeSet<>();
        for (Field field : WeekBank.class.getDeclaredFields()) {
            if (!Modifier.isPrivate(field.getModifiers())) {
                there.add(field.toString());
            }
        }
        is("fields that are seen", there.toString(), "[public static final int WeekBank.NONE]");
        is("NONE", WeekBank.NONE, -1);
    }

    private static void onlyOfThrows() {
        about("throws NoSuchElementException");
        for (Method method : WeekBank.class.getDeclaredMethods()) {
            Class<?>[] due = method.getName().equals("of") ? new Class<?>[] {NoSuchElementException.class} : new Class<?>[0];
            is(method.getName(), Arrays.toString(method.getExceptionTypes()), Arrays.toString(due));
        }
    }

    private static void nothingElseIsSeen() {
        about("LANGUAGE 1: no other public, protected or package-visible member");
        for (Method method : WeekBank.class.getDeclaredMethods()) {
            boolean isPublic = Modifier.isPublic(method.getModifiers());
            is(method.getName(), isPublic || Modifier.isPrivate(method.getModifiers()) || method.isSynthetic(), true);
        }
    }

    private static void noPrivateMethodBearsAPublicName() {
        about("LANGUAGE 1: no private method bears the name of a public one");
        Set<String> faces = new HashSet<>();
        for (Method method : WeekBank.class.getDeclaredMethods()) {
            if (Modifier.isPublic(method.getModifiers())) {
                is(method.getName() + " is there once", faces.add(method.getName()), true);
            }
        }
        for (Class<?> each : all()) {
            for (Method method : each.getDeclaredMethods()) {
                if (!Modifier.isPublic(method.getModifiers())) {
                    is(each.getName() + "." + method.getName(), faces.contains(method.getName()), false);
                }
            }
        }
    }

    private static void staticFieldsAreFinal() {
        about("LANGUAGE 5: static fields are final");
        List<Class<?>> allowed = List.of(int.class, long.class, boolean.class, char.class, String.class, int[].class,
            long[].class, char[].class, byte[].class);
        for (Class<?> each : all()) {
            for (Field field : each.getDeclaredFields()) {
                if (Modifier.isStatic(field.getModifiers())) {
                    is(field.toString(), Modifier.isFinal(field.getModifiers()), true);
                    is(field.toString(), allowed.contains(field.getType()), true);
                }
            }
        }
    }

    private static void classesInside() {
        about("LANGUAGE 1, 2, 11: classes inside");
        is("at most twelve", WeekBank.class.getDeclaredClasses().length <= 12, true);
        for (Class<?> inside : WeekBank.class.getDeclaredClasses()) {
            int how = inside.getModifiers();
            is(inside.getName(), Modifier.isStatic(how), true);
            is(inside.getName(), Modifier.isPublic(how) || Modifier.isProtected(how), false);
            is(inside.getName() + " has no class inside", inside.getDeclaredClasses().length, 0);
        }
        for (Class<?> each : all()) {
            is(each.getName() + "'s fields", Arrays.stream(each.getDeclaredFields()).filter(FaceTest::isOfObjects).count() <= 20,
                true);
        }
    }

    private static boolean isOfObjects(Member field) {
        return !Modifier.isStatic(field.getModifiers());
    }

    private static void parametersOfMethods() {
        about("LANGUAGE 11: a method takes at most seven parameters");
        for (Class<?> each : all()) {
            for (Method method : each.getDeclaredMethods()) {
                is(each.getName() + "." + method.getName(), method.getParameterCount() <= 7, true);
            }
        }
    }

    private static void wordsThatAreRuledOut() throws IOException {
        about("LANGUAGE 4, 6, 13: what the text of the class must not have");
        String code = Files.readString(SOURCE).replaceAll("(?s)/\\*.*?\\*/", "").replaceAll("//[^\n]*", "");
        String[] words = {"\\btry\\b", "\\bcatch\\b", "\\bfinally\\b", "\\bassert\\b", "\\bsynchronized\\b", "->", "::",
            "\\bpackage\\b", "Exact\\b", "\\bSystem\\.(?!arraycopy)", "\\bprotected\\b", "Random", "Thread"};
        for (String word : words) {
            is(word, Pattern.compile(word).matcher(code).find(), false);
        }
        Set<String> imports = new TreeSet<>();
        Matcher found = Pattern.compile("import ([\\w.*]+);").matcher(code);
        while (found.find()) {
            imports.add(found.group(1));
        }
        is("imports", imports.toString(), "[java.util.Arrays, java.util.NoSuchElementException]");
    }

    private static Set<Class<?>> all() {
        Set<Class<?>> all = new HashSet<>(Arrays.asList(WeekBank.class.getDeclaredClasses()));
        all.add(WeekBank.class);
        return all;
    }
}
