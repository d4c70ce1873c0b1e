import java.io.IOException;
import java.lang.reflect.Field;
import java.lang.reflect.Modifier;
import java.nio.charset.StandardCharsets;
import java.nio.file.Files;
import java.nio.file.Path;
import java.util.Set;
import java.util.regex.Matcher;
import java.util.regex.Pattern;

/** Those rules of LANGUAGE.md that can be seen in the program's own lines; FaceTest looks at rule 1. */
public final class LanguageTest {
    private static final Path PROGRAM = Path.of("src/main/java/PermitOffice.java");
    private static final int MOST_LINES = 60;
    private static final int MOST_PARAMETERS = 7;
    private static final int MOST_FIELDS = 20;
    private static final Set<String> THROWN = Set.of("IllegalStateException", "IllegalArgumentException",
            "IndexOutOfBoundsException", "ArithmeticException", "UnsupportedOperationException",
            "NoSuchElementException", "RuntimeException");
    private static final Set<String> IMPORTED = Set.of("java.util.ArrayList", "java.util.Arrays",
            "java.util.Iterator", "java.util.List", "java.util.NoSuchElementException");
    /** What the rules rule out by a word or sign, wherever it stands. */
    private static final String[] RULED_OUT = {"\\bpackage\\b", "->", "::", "@", "\\bfinally\\b",
        "\\bsynchronized\\b", "\\bassert\\b", "\\bvolatile\\b", "\\bnative\\b", "\\bThread\\b", "\\bRandom\\b",
        "\\w+Exact\\b", "\\bSystem\\.(?!arraycopy\\b)", "\\bstatic\\s*\\{", "\\bgetClass\\b", "\\bhashCode\\b",
        "\\btoString\\b", "\\bObject\\b", "\\bwhile\\s*\\(true\\)", "\\bfor\\s*\\(;;"};
    private static final Pattern METHOD =
            Pattern.compile("^( {4}| {8})(?:[a-z]+ )*(?:[A-Za-z\\[\\]]+ )?(\\w+)\\((.*)\\)(?: throws \\w+)? \\{$");

    public static void main(String[] args) throws IOException {
        String source = Files.readString(PROGRAM, StandardCharsets.ISO_8859_1);
        for (int k = 0; k < source.length(); k++) {
            char sign = source.charAt(k);
            Check.yes("sign " + (int) sign + " at " + k, sign == '\n' || sign >= 32 && sign < 127);
        }
        String code = withoutComments(source);
        words(code);
        exceptions(code);
        methods(code.split("\n", -1));
        fields(PermitOffice.class);
        for (Class<?> inner : PermitOffice.class.getDeclaredClasses()) {
            fields(inner);
        }
        Check.end("LanguageTest");
    }

    /** The lines stay as many as they are. */
    private static String withoutComments(String source) {
        Matcher comment = Pattern.compile("/\\*.*?\\*/|//[^\n]*", Pattern.DOTALL).matcher(source);
        return comment.replaceAll(found -> found.group().replaceAll("[^\n]", ""));
    }

    private static void words(String code) {
        for (String word : RULED_OUT) {
            Check.no("ruled out: " + word, Pattern.compile(word).matcher(code).find());
        }
        Matcher imports = Pattern.compile("\\bimport ([^;]+);").matcher(code);
        while (imports.find()) {
            Check.yes("import " + imports.group(1), IMPORTED.contains(imports.group(1)));
        }
    }

    /** The program needs no catch at all: so it can't catch what the machine throws. */
    private static void exceptions(String code) {
        Check.no("catch", Pattern.compile("\\bcatch\\b").matcher(code).find());
        Matcher thrown = Pattern.compile("\\bthrow\\b(?: new (\\w+)\\((?:\"[^\"]*\")?\\);)?").matcher(code);
        while (thrown.find()) {
            Check.yes(thrown.group(), thrown.group(1) != null && THROWN.contains(thrown.group(1)));
        }
    }

    private static void methods(String[] lines) {
        int seen = 0;
        for (int k = 0; k < lines.length; k++) {
            Matcher head = METHOD.matcher(lines[k]);
            if (head.find()) {
                seen++;
                int last = k;
                while (last < lines.length && !lines[last].equals(head.group(1) + "}")) {
                    last++;
                }
                Check.yes(head.group(2) + " is short", last - k < MOST_LINES);
                Check.yes(head.group(2) + " takes few", head.group(3).split(",").length <= MOST_PARAMETERS);
            }
        }
        Check.yes("methods are seen: " + seen, seen > 80);
    }

    private static void fields(Class<?> owner) {
        int own = 0;
        for (Field field : owner.getDeclaredFields()) {
            Class<?> type = field.getType();
            if (Modifier.isStatic(field.getModifiers())) {
                Check.yes(field + " is final", Modifier.isFinal(field.getModifiers()));
            } else {
                own++;
            }
            Class<?> held = type.isArray() ? type.getComponentType() : type;
            Check.yes(field + " is of a type of the rules", held.isPrimitive() || held == String.class
                    || held.getName().startsWith("PermitOffice"));
        }
        Check.yes(owner + " has few fields: " + own, own <= MOST_FIELDS);
    }
}
