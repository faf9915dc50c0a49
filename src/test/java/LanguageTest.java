import java.lang.reflect.Field;
import java.lang.reflect.Method;
import java.lang.reflect.Modifier;
import java.nio.file.Files;
import java.nio.file.Path;
import java.util.HashSet;
import java.util.List;
import java.util.Set;
import java.util.TreeSet;
import java.util.regex.Matcher;
import java.util.regex.Pattern;

/** The rules of LANGUAGE.md that can be seen in the source or by looking at the class. */
public final class LanguageTest {
    private static final Check CHECK = new Check("LanguageTest");
    private static final String FACE = "int feed(int,int,int,int,int); int back(int); int read(); int place();"
        + "int letter(int,int); int reader(int,int); int tells(int,int,int); int answers(int,int);"
        + "boolean send(int,int); boolean takeBack(int); boolean burn(int); int days(int); boolean undo();"
        + "int dealt(int); int stable(int); int uneasy(int); int favourite(int,int); int crowd(int,int);"
        + "int chain(int); int bundle(int); int keep(int); int barren(); int change(int,int); int changeBest(int);"
        + "int waiting(int); int first(); int then(int,int,int); int readerIn(int,int,int); int likedIn(int);"
        + "int year(int,int,int); int search(int,int); int tell(int,int,boolean); int forget(); int which(int,int);"
        + "int next(int); boolean hold(int); boolean restore(int); int count(int)";

    public static void main(String[] args) throws Exception {
        String source = withoutCommentsAndTexts(Files.readString(Path.of("src/main/java/HopeDrawer.java")));
        forbiddenWords(source);
        onlyWhatIsListed(source);
        face();
        classesInside();
        methodLengths(source);
        CHECK.end();
    }

    private static String withoutCommentsAndTexts(String source) {
        return source.replaceAll("(?s)/\\*.*?\\*/", "").replaceAll("//[^\\n]*", "")
            .replaceAll("\"[^\"\\n]*\"", "\"\"").replaceAll("'[^'\\n]+'", "' '");
    }

    private static void forbiddenWords(String source) {
        for (String word : List.of("throw", "throws", "try", "catch", "synchronized", "assert", "package", "->", "::",
                "instanceof", "Exact", "Random", "Thread", "Object", "getClass", "hashCode", "toString", "protected",
                "double", "float", "yield", "volatile", "transient", "native", "goto", "var ")) {
            boolean isWord = Character.isLetter(word.charAt(0)) && !word.endsWith(" ") && !word.equals("Exact");
            String pattern = isWord ? "\\b" + word + "\\b" : Pattern.quote(word);
            CHECK.due("finds " + word, Pattern.compile(pattern).matcher(source).find(), false);
        }
        Matcher imports = Pattern.compile("import ([^;]+);").matcher(source);
        while (imports.find()) {
            CHECK.due("import " + imports.group(1), imports.group(1).equals("java.util.Arrays"), true);
        }
    }

    private static void onlyWhatIsListed(String source) {
        Set<String> listed = Set.of("Math.max", "Math.min", "Math.abs", "Integer.bitCount", "System.arraycopy", "Arrays.fill");
        Matcher calls = Pattern.compile("\\b(Math|Integer|Long|System|Arrays|String|Character|List)\\.(\\w+)").matcher(source);
        while (calls.find()) {
            CHECK.due("calls " + calls.group(), listed.contains(calls.group()), true);
        }
    }

    private static void face() {
        Set<String> due = new TreeSet<>();
        for (String method : FACE.split(";")) {
            due.add(method.trim());
        }
        Set<String> publicNames = new HashSet<>();
        Set<String> found = new TreeSet<>();
        for (Method method : HopeDrawer.class.getDeclaredMethods()) {
            if (Modifier.isPublic(method.getModifiers())) {
                publicNames.add(method.getName());
                StringBuilder row = new StringBuilder(method.getReturnType() + " " + method.getName() + "(");
                for (Class<?> type : method.getParameterTypes()) {
                    row.append(row.charAt(row.length() - 1) == '(' ? "" : ",").append(type);
                }
                found.add(row.append(")").toString());
            }
        }
        CHECK.due("the face is the document's", found.equals(due), true);
        for (Method method : HopeDrawer.class.getDeclaredMethods()) {
            int seen = method.getModifiers();
            CHECK.due(method + " is public or private", Modifier.isPublic(seen) || Modifier.isPrivate(seen), true);
            boolean twice = !Modifier.isPublic(seen) && publicNames.contains(method.getName());
            CHECK.due(method + " bears a public name", twice, false);
        }
        for (Field field : HopeDrawer.class.getDeclaredFields()) {
            boolean fine = field.getName().equals("NONE") || Modifier.isPrivate(field.getModifiers());
            CHECK.due(field + " is private or NONE", fine, true);
        }
        CHECK.due("final", Modifier.isFinal(HopeDrawer.class.getModifiers()), true);
        CHECK.due("one constructor", HopeDrawer.class.getDeclaredConstructors().length, 1);
    }

    private static void classesInside() {
        Class<?>[] inside = HopeDrawer.class.getDeclaredClasses();
        CHECK.due("at most twelve classes", inside.length + 1 <= 12, true);
        for (Class<?> one : inside) {
            CHECK.due(one + " is static", Modifier.isStatic(one.getModifiers()), true);
            CHECK.due(one + " is not public", Modifier.isPublic(one.getModifiers()), false);
            int fields = 0;
            for (Field field : one.getDeclaredFields()) {
                int seen = field.getModifiers();
                fields += Modifier.isStatic(seen) ? 0 : 1;
                CHECK.due(field + " is final if static", !Modifier.isStatic(seen) || Modifier.isFinal(seen), true);
            }
            CHECK.due(one + " has at most twenty fields", fields <= 20, true);
            for (Method method : one.getDeclaredMethods()) {
                CHECK.due(method + " has at most seven parameters", method.getParameterCount() <= 7, true);
            }
        }
    }

    private static void methodLengths(String source) {
        String end = "";
        int length = 0;
        for (String line : source.split("\n")) {
            Matcher start = Pattern.compile("( {4}| {8})\\S.*\\) \\{").matcher(line);
            if (start.matches()) {
                end = start.group(1) + "}";
                length = 0;
            }
            length++;
            if (line.equals(end)) {
                CHECK.due("a method of " + length + " lines is short", length <= 60, true);
                end = "";
            }
        }
    }
}
