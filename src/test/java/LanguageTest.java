import java.io.IOException;
import java.lang.reflect.Constructor;
import java.lang.reflect.Field;
import java.lang.reflect.Method;
import java.lang.reflect.Modifier;
import java.nio.file.Files;
import java.nio.file.Path;
import java.util.ArrayList;
import java.util.Arrays;
import java.util.List;
import java.util.Set;
import java.util.TreeSet;
import java.util.regex.Matcher;
import java.util.regex.Pattern;

/** The rules of ../shared/LANGUAGE.md that can be seen from the source and from the compiled classes. */
public final class LanguageTest {
    private static final String FACE = "folk(int):int weather(int,int):boolean feed(int,int,int,int,int):int "
            + "end(int):int text():int fault(int):int by(int):boolean grant(int,int):int pay(int,int,int,int):int "
            + "pass(int):int played(int):int undo():int marks(int):int share(int,int):int owes(int,int,int):int "
            + "netted(int,int):int married(int):int bell(int,int):int cost(int,int,int,boolean):int "
            + "best(int,boolean):int seen(int):int rubbed(int,int):int image():int back():int about(int):int";
    private static final String BANNED = "\\b(throw|throws|try|catch|synchronized|assert|protected|import static"
            + "|Object|hashCode|toString|Thread|Random|System\\.(?!arraycopy)\\w+|native|volatile|static \\{)\\b|->|::|@";

    private static int wrong = 0;

    private static void due(boolean holds, String rule) {
        if (!holds) {
            wrong++;
            System.out.println("against the language: " + rule);
        }
    }

    public static void main(String[] args) throws IOException {
        checkFace();
        for (Class<?> inside : CathedralCoin.class.getDeclaredClasses()) {
            checkClass(inside);
        }
        checkClass(CathedralCoin.class);
        due(CathedralCoin.class.getDeclaredClasses().length < 12, "at most twelve classes");
        String source = Files.readString(Path.of("src/main/java/CathedralCoin.java"));
        checkWords(withoutComments(source));
        checkLengths(source);
        System.out.println(wrong == 0 ? "the language is kept to" : wrong + " rules are not kept to");
        if (wrong != 0) {
            System.exit(1);
        }
    }

    private static void checkFace() {
        Set<String> face = new TreeSet<>();
        for (Method method : CathedralCoin.class.getDeclaredMethods()) {
            if (Modifier.isPublic(method.getModifiers())) {
                List<String> types = new ArrayList<>();
                for (Class<?> type : method.getParameterTypes()) {
                    types.add(type.getName());
                }
                face.add(method.getName() + "(" + String.join(",", types) + "):" + method.getReturnType().getName());
            } else {
                due(Modifier.isPrivate(method.getModifiers()), "a method that is not private: " + method.getName());
            }
        }
        due(face.equals(new TreeSet<>(Arrays.asList(FACE.split(" ")))), "the face: " + face);
        for (Field field : CathedralCoin.class.getDeclaredFields()) {
            boolean isNone = field.getName().equals("NONE");
            due(isNone ? Modifier.isPublic(field.getModifiers()) : Modifier.isPrivate(field.getModifiers()),
                    "the field " + field.getName());
        }
        Constructor<?>[] constructors = CathedralCoin.class.getDeclaredConstructors();
        due(constructors.length == 1 && constructors[0].getParameterCount() == 0
                && Modifier.isPublic(constructors[0].getModifiers()), "the constructor");
        int modifiers = CathedralCoin.class.getModifiers();
        due(Modifier.isPublic(modifiers) && Modifier.isFinal(modifiers), "public and final");
    }

    private static void checkClass(Class<?> one) {
        int fields = 0;
        for (Field field : one.getDeclaredFields()) {
            boolean isStatic = Modifier.isStatic(field.getModifiers());
            fields += isStatic ? 0 : 1;
            due(!isStatic || Modifier.isFinal(field.getModifiers()), "a static field that may change: " + field);
        }
        due(fields <= 20, "at most twenty fields: " + one);
        due(one == CathedralCoin.class || Modifier.isStatic(one.getModifiers()), "a class that isn't static: " + one);
        Set<String> publicNames = new TreeSet<>();
        for (String method : FACE.split(" ")) {
            publicNames.add(method.substring(0, method.indexOf('(')));
        }
        for (Method method : one.getDeclaredMethods()) {
            due(method.getParameterCount() <= 7, "at most seven parameters: " + method);
            due(one == CathedralCoin.class && Modifier.isPublic(method.getModifiers())
                    || !publicNames.contains(method.getName()), "the name of a public method: " + method);
        }
    }

    private static String withoutComments(String source) {
        return source.replaceAll("(?s)/\\*.*?\\*/", "").replaceAll("//[^\n]*", "").replaceAll("\"[^\"\n]*\"", "\"\"");
    }

    private static void checkWords(String source) {
        Matcher matcher = Pattern.compile(BANNED).matcher(source);
        while (matcher.find()) {
            due(false, "the word " + matcher.group());
        }
        Matcher imports = Pattern.compile("import ([\\w.*]+);").matcher(source);
        while (imports.find()) {
            due(imports.group(1).equals("java.util.Arrays") || imports.group(1).equals("java.util.ArrayList")
                    || imports.group(1).equals("java.util.List"), "the import " + imports.group(1));
        }
        due(!source.contains("while (true)") && !source.contains("for (;;"), "a loop without an end");
    }

    /** No method is longer than sixty lines: from a line that opens one to the line that closes it. */
    private static void checkLengths(String source) {
        String[] lines = source.split("\n");
        for (int i = 0; i < lines.length; i++) {
            Matcher opening = Pattern.compile("^( {4}| {8})(?=\\w)[\\w\\[\\] <>]+\\([^;=]*\\) \\{$").matcher(lines[i]);
            if (opening.find()) {
                int end = i;
                while (end < lines.length && !lines[end].equals(opening.group(1) + "}")) {
                    end++;
                }
                due(end - i < 60, "at most sixty lines: " + lines[i].trim());
            }
            due(lines[i].length() <= 120, "a long line: " + (i + 1));
        }
    }
}
