import java.io.IOException;
import java.nio.file.Files;
import java.nio.file.Path;
import java.util.regex.Matcher;
import java.util.regex.Pattern;

/** The rules of LANGUAGE.md that can be seen in the text of the class; FaceTest has rule 1. */
final class LanguageTest {
    /** A rule's number, and what it rules out. */
    private static final String[][] FORBIDDEN = {{"0", "\\bpackage\\b"}, {"2", "::"},
        {"2", "[(,=]\\s*\\(?[\\w, ]*\\)?\\s*->"}, {"3", "\\bObject\\b"}, {"3", "\\bNaN\\b"},
        {"4", "\\bSystem\\.(?!arraycopy\\b)"}, {"4", "\\bArrays\\.(?!(copyOf|copyOfRange|fill)\\b)"},
        {"4", "Exact\\("}, {"4", "\\b(Character|Float|Double|Boolean|Short|Byte|Objects|Collections)\\."},
        {"4", "\\bString\\.\\w"}, {"5", "\\bstatic \\{"}, {"6", "\\bfinally\\b"}, {"6", "\\bsynchronized\\b"},
        {"6", "\\bassert\\b"}, {"6", "\\bextends \\w*Exception\\b"}, {"6", "\\btry \\("},
        {"6", "catch \\((ArrayIndexOutOfBounds|NullPointer|ClassCast|NegativeArraySize|ArrayStore)Exception"},
        {"6", "catch \\((Exception|Throwable|Error)\\b"}, {"6", "\\bthrow (?!new \\w+\\()"},
        {"9", "\\bfor \\(;;"}, {"9", "while \\(true\\)"},
        {"13", "\\b(Random|Thread|Instant|LocalDate|Scanner|File|Files)\\b"}, {"13", "Math\\.random"}};
    private static final String IMPORTS = "java\\.util\\.(Arrays|ArrayList|List|Iterator|NoSuchElementException)";
    private static final int LONGEST_METHOD = 60;
    private static final int MOST_PARAMETERS = 7;

    private static final Checks CHECKS = new Checks("the language");

    private LanguageTest() {
    }

    public static void main(String[] args) throws IOException {
        String source = Files.readString(Path.of("src/main/java/StackLab.java"));
        String code = source.replaceAll("(?s)/\\*.*?\\*/", "").replaceAll("//[^\\n]*", "");
        for (String[] forbidden : FORBIDDEN) {
            Matcher found = Pattern.compile(forbidden[1]).matcher(code);
            CHECKS.dueTrue("rule " + forbidden[0] + ": there is no " + forbidden[1], !found.find());
        }
        imports(code);
        parameters(code);
        methodLengths(code);
        CHECKS.end();
    }

    private static void imports(String code) {
        Matcher found = Pattern.compile("import ([^;]*);").matcher(code);
        while (found.find()) {
            CHECKS.dueTrue("rule 4: import " + found.group(1), found.group(1).matches(IMPORTS));
        }
    }

    private static void parameters(String code) {
        Matcher found = Pattern.compile("\\b(?:void|int|long|boolean|float) (\\w+)\\(([^)]*)\\) \\{").matcher(code);
        while (found.find()) {
            CHECKS.dueTrue("rule 11: " + found.group(1) + " has at most seven parameters",
                    found.group(2).split(",").length <= MOST_PARAMETERS);
        }
    }

    private static void methodLengths(String code) {
        Matcher found = Pattern.compile("(?m)^( +)(?:\\w+ )*(\\w+)\\([^)]*\\) \\{\\n").matcher(code);
        while (found.find()) {
            String end = "\n" + found.group(1) + "}";
            int last = code.indexOf(end, found.end() - 1);
            long lines = code.substring(found.end(), Math.max(found.end(), last)).lines().count();
            CHECKS.dueTrue("rule 11: " + found.group(2) + " is short", lines <= LONGEST_METHOD);
        }
    }
}
