import java.nio.file.Files;
import java.nio.file.Path;
import java.util.ArrayList;
import java.util.List;
import java.util.Map;
import java.util.Set;
import java.util.TreeMap;
import java.util.TreeSet;
import java.util.regex.Matcher;
import java.util.regex.Pattern;

/** What a search through the program's text can tell of LANGUAGE.md. */
public final class LanguageTest {
    private static final String[] NEVER = {
        "->", "::", "\\bfinally\\b", "\\bsynchronized\\b", "\\bassert\\b", "\\bcatch\\b", "\\bpackage\\b",
        "\\bprotected\\b", "Exact\\s*\\(", "\\bNaN\\b", "\\bdouble\\b", "\\bfloat\\b", "\\bThread\\b",
        "\\bRandom\\b", "\\bSystem\\.(?!arraycopy)", "\\bMath\\.(?!min\\b|max\\b|abs\\b|floorDiv\\b)",
        "\\bArrays\\.(?!fill\\b)", "\\bvar\\b", "static\\s*\\{", "\\bString\\b", "\\bObject\\b",
        "while\\s*\\(\\s*true", "for\\s*\\(\\s*;", "class\\s+\\w+\\s+extends", "\\bInteger\\b", "\\bLong\\b",
    };

    public static void main(String[] args) throws Exception {
        Checks checks = new Checks("LanguageTest");
        String text = Files.readString(Path.of("src/main/java/PhotoModels.java"));
        String code = text.replaceAll("(?s)/\\*.*?\\*/", "").replaceAll("//[^\n]*", "")
                .replaceAll("\"[^\"\n]*\"", "\"\"");
        for (String each : NEVER) {
            checks.due("text has " + each, Pattern.compile(each).matcher(code).find(), false);
        }
        Matcher imports = Pattern.compile("import ([^;]*);").matcher(code);
        while (imports.find()) {
            checks.due("import " + imports.group(1), imports.group(1).equals("java.util.Arrays"), true);
        }
        Matcher thrown = Pattern.compile("throw new (\\w+)\\(").matcher(code);
        while (thrown.find()) {
            checks.due("throw new " + thrown.group(1),
                    List.of("IllegalStateException", "IllegalArgumentException", "IndexOutOfBoundsException")
                            .contains(thrown.group(1)), true);
        }
        checkMethodLengths(checks, code);
        checkCalls(checks, code);
        checks.end();
    }

    private static void checkMethodLengths(Checks checks, String code) {
        List<Integer> starts = new ArrayList<>();
        String[] lines = code.split("\n");
        for (int i = 0; i < lines.length; i++) {
            String line = lines[i].strip();
            if (line.endsWith("{") && !line.startsWith("}")) {
                starts.add(i);
            } else if (line.equals("}") && !starts.isEmpty()) {
                int start = starts.remove(starts.size() - 1);
                boolean isClass = lines[start].contains(" class ");
                checks.due("line " + start + " begins a short block", isClass || i - start < 60, true);
            }
        }
    }

    /** Rules 8 and 11. Methods of one name count as one, so that a chain may only seem too long. */
    private static void checkCalls(Checks checks, String code) {
        Map<String, Set<String>> calls = callsByMethod(code);
        checks.due("methods were found", calls.size() > 60, true);
        for (String method : calls.keySet()) {
            checks.due(method + " has at most eight calls open", deepest(calls, method, 0) <= 8, true);
        }
    }

    private static Map<String, Set<String>> callsByMethod(String code) {
        Pattern head = Pattern.compile("(?m)^ +(?:[a-z]+ )*(?:int|long|boolean|void) (\\w+)\\([^)]*\\)[^;{]*\\{");
        Map<String, Set<String>> calls = new TreeMap<>();
        List<Integer> starts = new ArrayList<>();
        List<String> names = new ArrayList<>();
        Matcher heads = head.matcher(code);
        while (heads.find()) {
            names.add(heads.group(1));
            starts.add(heads.end());
        }
        for (int i = 0; i < names.size(); i++) {
            int end = i + 1 < names.size() ? starts.get(i + 1) : code.length();
            String body = head.matcher(code.substring(starts.get(i), end)).replaceAll("");
            Set<String> called = calls.computeIfAbsent(names.get(i), name -> new TreeSet<>());
            Matcher call = Pattern.compile("\\b(\\w+)\\(").matcher(body);
            while (call.find()) {
                if (names.contains(call.group(1)) || body.startsWith("Math.", call.start() - 5)) {
                    called.add(call.group(1));
                }
            }
        }
        return calls;
    }

    /** How many calls stand open at most from this one on; recursion ends as more than nine. */
    private static int deepest(Map<String, Set<String>> calls, String method, int above) {
        int deepest = 0;
        if (above < 9) {
            for (String called : calls.getOrDefault(method, Set.of())) {
                deepest = Math.max(deepest, deepest(calls, called, above + 1));
            }
        }
        return deepest + 1;
    }
}
