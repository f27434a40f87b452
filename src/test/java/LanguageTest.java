import java.io.IOException;
import java.nio.charset.StandardCharsets;
import java.nio.file.Files;
import java.nio.file.Path;
import java.util.regex.Matcher;
import java.util.regex.Pattern;

/** Rules of LANGUAGE.md that a look at the program's text can hold. */
public final class LanguageTest {
    private static int wrong = 0;

    /** Each of these is outside the language, or outside what the program needs of it. */
    private static final String[] OUTSIDE = {
        "->", "::", "\\bfinally\\b", "\\bsynchronized\\b", "\\bassert\\b", "\\binstanceof\\b", "\\bpackage\\b", "\\bvar\\b",
        "\\bthrow e\\b", "getMessage", "\\brecord\\b", "\\byield\\b", "Exact\\(", "Math\\.(random|sqrt|floor|ceil|pow)\\b",
        "\\bSystem\\.(?!arraycopy\\()", "\\b(double|float|Object|Thread|Random|Class|Runtime)\\b",
        "\"\\s*\\+|\\+\\s*\"", "\\bstatic\\s*\\{", "\\bprotected\\b", "catch \\((Exception|RuntimeException|Throwable|Error)\\b",
        "\\b(ArrayIndexOutOfBounds|NullPointer|ClassCast|NegativeArraySize|ArrayStore)Exception\\b",
        "\\b(equals|hashCode|toString)\\s*\\(", "while \\(true\\)", "for \\(;;"};

    public static void main(String[] args) throws IOException {
        String text = Files.readString(Path.of("src/main/java/LapBoard.java"), StandardCharsets.UTF_8);
        String code = text.replaceAll("(?s)/\\*.*?\\*/", "").replaceAll("//[^\n]*", "");
        for (String pattern : OUTSIDE) {
            Matcher m = Pattern.compile(pattern).matcher(code);
            if (m.find()) {
                tell("outside the language: " + m.group());
            }
        }
        Matcher imports = Pattern.compile("import [^;]*;").matcher(code);
        while (imports.find()) {
            if (!imports.group().equals("import java.util.Arrays;")) {
                tell("outside the language: " + imports.group());
            }
        }
        Matcher arrays = Pattern.compile("Arrays\\.(\\w+)").matcher(code);
        while (arrays.find()) {
            if (!arrays.group(1).equals("fill") && !arrays.group(1).startsWith("copyOf")) {
                tell("outside the language: " + arrays.group());
            }
        }
        for (int i = 0; i < text.length(); i++) {
            if (text.charAt(i) > 126) {
                tell("a sign that is not ASCII at " + i);
            }
        }
        measureMethods(text.split("\n"));
        System.out.println(wrong == 0 ? "LanguageTest: nothing outside the language is found" : "LanguageTest: " + wrong + " wrong");
        if (wrong != 0) {
            System.exit(1);
        }
    }

    /** Methods stay under some sixty lines: a head ends in a brace and its indent closes it. */
    private static void measureMethods(String[] lines) {
        Pattern head = Pattern.compile("^(    |        )(?! )[\\w\\[\\]<> ]+\\([^;]*\\)[\\w, ]* \\{$");
        for (int i = 0; i < lines.length; i++) {
            Matcher m = head.matcher(lines[i]);
            if (m.matches()) {
                int end = i;
                while (end < lines.length && !lines[end].equals(m.group(1) + "}")) {
                    end++;
                }
                if (end - i > 60) {
                    tell("a long method at line " + (i + 1));
                }
            }
        }
    }

    private static void tell(String what) {
        wrong++;
        System.out.println(what);
    }
}
