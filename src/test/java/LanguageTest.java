import java.nio.file.Files;
import java.nio.file.Path;
import java.util.regex.Matcher;
import java.util.regex.Pattern;

/** What of LANGUAGE.md can be seen in the source by looking for words and counting lines. */
public final class LanguageTest {
    private static final String[] FORBIDDEN = {
        "\\b(throw|throws|try|catch|finally|synchronized|assert|package|protected|volatile|transient|native)\\b",
        "->", "::", "\\bstatic\\s*\\{", "\\bequals\\s*\\(", "\\bhashCode\\b", "\\btoString\\b", "Exact\\b",
        "\\b(Object|Class|Thread|Runtime|Random|Scanner|Files|HashMap|Map|Set|Stream|Optional)\\b",
        "\\bSystem\\.(?!arraycopy\\b)", "\\bArrays\\.(?!(copyOf|copyOfRange|fill)\\b)",
        "\\bimport\\s+(?!java\\.util\\.(Arrays|ArrayList|List|Iterator);)", "\\b(double|float)\\b",
        "while\\s*\\(\\s*true\\s*\\)", "for\\s*\\(\\s*;\\s*;", "[^\\x00-\\x7f]"};

    public static void main(String[] args) throws Exception {
        String source = Files.readString(Path.of(System.getProperty("program", "src/main/java/LastPruned.java")));
        String code = withoutComments(source);
        for (String pattern : FORBIDDEN) {
            Matcher m = Pattern.compile(pattern).matcher(code);
            boolean isThere = m.find();
            Check.due("forbidden: " + pattern + (isThere ? " at " + m.group() : ""), isThere ? 1 : 0, 0);
        }
        classes(code);
        methods(code);
        objects(code);
        Check.end();
    }

    private static String withoutComments(String source) {
        return source.replaceAll("(?s)/\\*.*?\\*/", "").replaceAll("//[^\n]*", "");
    }

    private static void classes(String code) {
        Matcher m = Pattern.compile("([a-z ]*)\\b(class|record|enum|interface)\\s+\\w+").matcher(code);
        int classes = 0;
        while (m.find()) {
            classes++;
            boolean isInside = m.start() != code.indexOf("public final class");
            boolean isStatic = m.group(1).contains("private static");
            Check.due("a class inside is static: " + m.group(), isInside && !isStatic ? 1 : 0, 0);
        }
        Check.due("at most twelve classes", classes <= 12 ? 1 : 0, 1);
    }

    private static void methods(String code) {
        Matcher m = Pattern.compile("(?m)^( +)[a-zA-Z\\[\\] ]+ (\\w+)\\(([^)]*)\\) \\{$").matcher(code);
        int methods = 0;
        while (m.find()) {
            methods++;
            int end = code.indexOf("\n" + m.group(1) + "}", m.end());
            long lines = code.substring(m.start(), Math.max(m.end(), end)).lines().count() + 1;
            Check.due("lines of " + m.group(2) + ": " + lines, lines <= 60 ? 1 : 0, 1);
            Check.due("parameters of " + m.group(2), m.group(3).split(",").length <= 7 ? 1 : 0, 1);
        }
        Check.due("methods were seen", methods > 90 ? 1 : 0, 1);
    }

    /** Rule 12, more strictly: objects and arrays are made by fields alone, as an object is made. */
    private static void objects(String code) {
        for (String line : code.split("\n")) {
            boolean isMaking = line.matches(".*(\\bnew\\b|\\bclone\\(|\\bcopyOf).*");
            boolean isField = line.matches(" +(private )?(static )?final [\\w\\[\\]]+ \\w+ = .*;");
            Check.due("made by a field: " + line.trim(), isMaking && !isField ? 1 : 0, 0);
        }
    }
}
