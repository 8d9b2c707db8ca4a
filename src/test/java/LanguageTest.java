import java.io.IOException;
import java.nio.file.Files;
import java.nio.file.Path;
import java.util.List;
import java.util.regex.Matcher;
import java.util.regex.Pattern;

/** What can be seen of LANGUAGE.md's rules in the text of the class itself. */
public final class LanguageTest {
    private static final Path SOURCE = Path.of("src/main/java/SignTriples.java");
    private static final String[] WORDS = {"throw", "throws", "try", "catch", "finally", "synchronized", "assert", "yield", "package",
        "var", "volatile", "transient", "native", "equals", "hashCode", "toString", "Exact", "System\\.out", "Object", "->", "::", "@\\w+"};
    private static final String[] LIBRARY = {"System.arraycopy", "Arrays.fill", "Integer.bitCount", "Long.bitCount", "Math.max", "Math.min"};
    private static final int LONGEST = 60;
    private static int wrong = 0;

    public static void main(String[] args) throws IOException {
        List<String> lines = Files.readAllLines(SOURCE);
        String code = String.join("\n", lines).replaceAll("(?s)/\\*.*?\\*/", "").replaceAll("//[^\n]*", "");
        words(code);
        library(code);
        methods(lines);
        System.out.println(wrong == 0 ? "language: nothing against its rules is seen" : "language: " + wrong + " things are against its rules");
        if (wrong != 0) {
            System.exit(1);
        }
    }

    private static void fault(String told) {
        wrong++;
        System.out.println(told);
    }

    private static void words(String code) {
        for (String word : WORDS) {
            Pattern pattern = Pattern.compile(Character.isLetter(word.charAt(0)) ? "\\b" + word + "\\b" : word);
            if (pattern.matcher(code).find()) {
                fault("there is " + word);
            }
        }
        if (code.chars().anyMatch(c -> c > 126 || c < 32 && c != '\n')) {
            fault("there is a sign that is not of 32 .. 126");
        }
    }

    private static void library(String code) {
        Matcher imports = Pattern.compile("import ([^;]*);").matcher(code);
        while (imports.find()) {
            if (!imports.group(1).equals("java.util.Arrays")) {
                fault("there is imported " + imports.group(1));
            }
        }
        Matcher calls = Pattern.compile("\\b(System|Arrays|Integer|Long|Math|String)\\.(\\w+)").matcher(code);
        while (calls.find()) {
            if (!List.of(LIBRARY).contains(calls.group())) {
                fault("there is called " + calls.group());
            }
        }
    }

    /** Methods are short, and rows and objects are made in constructors alone. */
    private static void methods(List<String> lines) {
        Pattern head = Pattern.compile("^( {4}| {8})(?!for |if |while |switch )\\S.*\\) \\{$");
        for (int i = 0; i < lines.size(); i++) {
            Matcher m = head.matcher(lines.get(i));
            if (!m.matches()) {
                continue;
            }
            int end = i;
            while (!lines.get(end).equals(m.group(1) + "}")) {
                end++;
            }
            if (end - i + 1 > LONGEST) {
                fault("long: " + lines.get(i).strip());
            }
            boolean makes = String.join("\n", lines.subList(i, end)).matches("(?s).*\\bnew \\w.*");
            if (makes && !lines.get(i).matches(" +(public )?[A-Z]\\w*\\(.*")) {
                fault("makes objects: " + lines.get(i).strip());
            }
        }
    }
}
