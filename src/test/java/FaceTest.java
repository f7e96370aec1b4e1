import java.io.IOException;
import java.lang.reflect.Constructor;
import java.lang.reflect.Field;
import java.lang.reflect.Method;
import java.lang.reflect.Modifier;
import java.nio.file.Files;
import java.nio.file.Path;
import java.util.Arrays;
import java.util.Set;
import java.util.TreeSet;
import java.util.regex.Matcher;
import java.util.regex.Pattern;
import java.util.stream.Collectors;

/** The class has the document's face and no more, and keeps to what LANGUAGE.md leaves. */
public final class FaceTest {
    private static int wrong = 0;

    private static void hold(boolean holds, String what) {
        if (!holds) {
            wrong++;
            System.out.println(what);
        }
    }

    public static void main(String[] args) throws IOException {
        String doc = Files.readString(Path.of("../shared/DOC.md"));
        String source = Files.readString(Path.of("src/main/java/NewDishes.java"));
        faceIsTheDocuments(doc);
        membersArePrivate();
        nestedClassesAreStatic();
        sourceKeepsToTheLanguage(source);
        System.out.println(wrong == 0 ? "the face and the language are as due" : wrong + " things are not as due");
        if (wrong != 0) {
            System.exit(1);
        }
    }

    private static void faceIsTheDocuments(String doc) {
        Set<String> due = new TreeSet<>();
        Matcher m = Pattern.compile("public (int|long) (\\w+)\\(([^)]*)\\);").matcher(doc);
        while (m.find()) {
            String types = m.group(3).replaceAll("(\\w+) \\w+", "$1").replace(" ", "");
            due.add(m.group(1) + " " + m.group(2) + "(" + types + ")");
        }
        Set<String> face = new TreeSet<>();
        for (Method method : NewDishes.class.getDeclaredMethods()) {
            if (Modifier.isPublic(method.getModifiers())) {
                String types = Arrays.stream(method.getParameterTypes()).map(Class::getName).collect(Collectors.joining(","));
                face.add(method.getReturnType().getName() + " " + method.getName() + "(" + types + ")");
            }
        }
        hold(due.size() == 44, "the document tells " + due.size() + " methods");
        hold(face.equals(due), "the face is " + face + ", due is " + due);
        Constructor<?>[] constructors = NewDishes.class.getDeclaredConstructors();
        hold(constructors.length == 1 && Modifier.isPublic(constructors[0].getModifiers())
            && constructors[0].getParameterCount() == 0, "one public constructor");
        int modifiers = NewDishes.class.getModifiers();
        hold(Modifier.isFinal(modifiers) && Modifier.isPublic(modifiers), "public and final");
    }

    private static void membersArePrivate() {
        Set<String> names = new TreeSet<>();
        for (Method method : NewDishes.class.getDeclaredMethods()) {
            if (Modifier.isPublic(method.getModifiers())) {
                names.add(method.getName());
            }
        }
        for (Method method : NewDishes.class.getDeclaredMethods()) {
            int modifiers = method.getModifiers();
            hold(Modifier.isPublic(modifiers) || Modifier.isPrivate(modifiers), method + " is neither public nor private");
            hold(Modifier.isPublic(modifiers) || !names.contains(method.getName()), method + " bears a public one's name");
        }
        for (Class<?> nested : NewDishes.class.getDeclaredClasses()) {
            for (Method method : nested.getDeclaredMethods()) {
                hold(!names.contains(method.getName()), method + " bears a public one's name");
            }
        }
        for (Field field : NewDishes.class.getDeclaredFields()) {
            hold(Modifier.isPrivate(field.getModifiers()), field + " is not private");
        }
    }

    private static void nestedClassesAreStatic() {
        Class<?>[] nested = NewDishes.class.getDeclaredClasses();
        hold(nested.length < 12, "too many classes");
        for (Class<?> one : nested) {
            hold(Modifier.isStatic(one.getModifiers()) && !Modifier.isPublic(one.getModifiers()), one + " is not static");
            hold(one.getDeclaredClasses().length == 0, one + " has classes inside");
            staticsAreFinal(one);
            long fields = Arrays.stream(one.getDeclaredFields()).filter(f -> !Modifier.isStatic(f.getModifiers())).count();
            hold(fields <= 20, one + " has too many fields");
        }
        staticsAreFinal(NewDishes.class);
    }

    private static void staticsAreFinal(Class<?> one) {
        for (Field field : one.getDeclaredFields()) {
            int modifiers = field.getModifiers();
            hold(!Modifier.isStatic(modifiers) || Modifier.isFinal(modifiers), field + " is not final");
        }
        for (Method method : one.getDeclaredMethods()) {
            hold(method.getParameterCount() <= 7, method + " has too many parameters");
        }
    }

    private static void sourceKeepsToTheLanguage(String source) {
        String code = source.replaceAll("(?s)/\\*.*?\\*/", "").replaceAll("//[^\n]*", "").replaceAll("\"[^\"\n]*\"", "\"\"");
        for (String word : new String[] {"throw", "throws", "try", "catch", "finally", "synchronized", "assert", "package",
            "float", "double", "volatile", "native", "var", "record", "Object", "Thread", "Random"}) {
            hold(!Pattern.compile("\\b" + word + "\\b").matcher(code).find(), "the code has " + word);
        }
        for (String sign : new String[] {"->", "::", "Exact", "@", "\" +", "+ \"", "System.out", "System.err", "Math.random"}) {
            hold(!code.contains(sign), "the code has " + sign);
        }
        Matcher imports = Pattern.compile("import ([^;]*);").matcher(code);
        while (imports.find()) {
            hold(imports.group(1).equals("java.util.Arrays"), "the code imports " + imports.group(1));
        }
        hold(source.chars().allMatch(c -> c < 128), "the source has signs beyond 127");
        methodsAreShort(source);
    }

    private static void methodsAreShort(String source) {
        String[] lines = source.split("\n");
        int start = -1;
        String indent = "";
        for (int i = 0; i < lines.length; i++) {
            Matcher head = Pattern.compile("^( {4}| {8})\\w.*\\) \\{$").matcher(lines[i]);
            if (start < 0 && head.find()) {
                start = i;
                indent = head.group(1);
            } else if (start >= 0 && lines[i].equals(indent + "}")) {
                hold(i - start < 60, "too long: " + lines[start].trim());
                start = -1;
            }
        }
    }
}
