import java.nio.file.Files;
import java.nio.file.Path;
import java.util.ArrayList;
import java.util.List;
import java.util.regex.Matcher;
import java.util.regex.Pattern;

/** What a search through the program's text can tell of LANGUAGE.md. */
public final class LanguageTest {
    private static final String[] NEVER = {
        "->", "::", "\\bfinally\\b", "\\bsynchronized\\b", "\\bassert\\b", "\\bcatch\\b", "\\bpackage\\b",
        "\\bprotected\\b", "Exact\\s*\\(", "\\bNaN\\b", "\\bdouble\\b", "\\bfloat\\b", "\\bThread\\b",
        "\\bRandom\\b", "\\bSystem\\.(?!arraycopy)", "\\bMath\\.(?!min\\b|max\\b|abs\\b|floorDiv\\b)",
        "\\bArrays\\.(?!fill\\b)", "\\bvar\\b", "static\\s*\\{", "\\bString\\b", "\\bObject\\b",
        "while\\s*\\(\\s*true", "for\\s*\\(\\s*;", "class\\s+\\w+\\s+extends",
    };

    public static void main(String[] args) throws Exception {
        Checks checks = new Checks("LanguageTest");
        String text = Files.readString(Path.of("src/main/java/PhotoModels.java"));
        String code = text.replaceAll("(?s)/\\*.*?\\*/", "").replaceAll("//[^\n]*", "")
                .replaceAll("\"[^\"\n]*\"", "\"\"");
        for (String each : NEVER) {
            checks.due("text has " + each, Pattern.compile(each).matcher(code).find(), false);
        }
        Matcher imports = Pattern.compile("import ([^;]*);").matcher(code);
        while (imports.find()) {
            checks.due("import " + imports.group(1), imports.group(1).equals("java.util.Arrays"), true);
        }
        Matcher thrown = Pattern.compile("throw new (\\w+)\\(").matcher(code);
        while (thrown.find()) {
            checks.due("throw new " + thrown.group(1),
                    List.of("IllegalStateException", "IllegalArgumentException", "IndexOutOfBoundsException")
                            .contains(thrown.group(1)), true);
        }
        checkMethodLengths(checks, code);
        checks.end();
    }

    private static void checkMethodLengths(Checks checks, String code) {
        List<Integer> starts = new ArrayList<>();
        String[] lines = code.split("\n");
        for (int i = 0; i < lines.length; i++) {
            String line = lines[i].strip();
            if (line.endsWith("{") && !line.startsWith("}")) {
                starts.add(i);
            } else if (line.equals("}") && !starts.isEmpty()) {
                int start = starts.remove(starts.size() - 1);
                boolean isClass = lines[start].contains(" class ");
                checks.due("line " + start + " begins a short block", isClass || i - start < 60, true);
            }
        }
    }
}
