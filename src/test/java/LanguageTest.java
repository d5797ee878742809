import java.io.IOException;
import java.lang.reflect.Field;
import java.lang.reflect.Method;
import java.lang.reflect.Modifier;
import java.nio.file.Files;
import java.nio.file.Path;
import java.util.HashSet;
import java.util.List;
import java.util.Set;
import java.util.TreeSet;
import java.util.regex.Matcher;
import java.util.regex.Pattern;

/** The face of the class, and what the text of the source tells of the rules of LANGUAGE.md. */
public final class LanguageTest {
    private static final Path SOURCE = Path.of("src/main/java/ShuffleAlgebra.java");
    private static final int LONGEST_METHOD = 60;
    private static final String[] FORBIDDEN = {"\\b(throw|throws|try|catch|synchronized|assert|import|package)\\b", "->", "::",
        "\\bException\\b", "Exact\\b", "\\bObject\\b", "\\bprotected\\b", "\" *\\+", "\\+ *\"", "\\bSystem\\.(?!arraycopy)",
        "\\bstatic *\\{", "\\bnew int\\[[^\\]]*\\]\\[", "[^\\x00-\\x7f]"};
    private static final String FACE = "appendLetter/2 clearWord/1 wordLength/1 wordLetter/2 reverseWord/2 subwordCount/2"
            + " splitCount/3 coverCount/3 isLyndon/1 factorCount/1 factorStart/2 nextLyndon/2 lyndonCount/1 bracket/2"
            + " basis/2 clearPolynomial/1 addTerm/3 coefficient/2 termCount/1 termLength/2 termLetter/3"
            + " termCoefficient/2 add/3 scale/3 multiply/4 antipode/2 residual/4 derive/3 pair/2 coordinates/2 isLie/1"
            + " appendCharacter/1 parsePolynomial/1 write/1 outputCharacter/1 transform/2 saveSnapshot/0"
            + " restoreSnapshot/0";
    private static final Set<String> LONG_ANSWERS = Set.of("coefficient", "termCoefficient", "pair");

    public static void main(String[] args) throws IOException {
        String code = withoutComments(Files.readString(SOURCE));
        forbiddenSigns(code);
        methodLengths(List.of(code.split("\n")));
        face();
        sizes();
        Check.finish();
    }

    private static String withoutComments(String source) {
        return source.replaceAll("(?s)/\\*.*?\\*/", "").replaceAll("//[^\n]*", "");
    }

    private static void forbiddenSigns(String code) {
        for (String sign : FORBIDDEN) {
            Matcher matcher = Pattern.compile(sign).matcher(code);
            Check.due("the source, looked through for " + sign, matcher.find() ? matcher.group() : "", "");
        }
    }

    private static void methodLengths(List<String> lines) {
        int start = 0;
        for (int i = 0; i < lines.size(); i++) {
            if (lines.get(i).matches(" {4}( {4})?\\S.*\\) \\{")) {
                start = i;
            }
            if (lines.get(i).matches(" {4}( {4})?\\}")) {
                Check.due("a long method at line " + start, i - start > LONGEST_METHOD ? 1 : 0, 0);
            }
        }
    }

    private static void face() {
        Set<String> found = new TreeSet<>();
        Set<String> hidden = new HashSet<>();
        for (Method method : ShuffleAlgebra.class.getDeclaredMethods()) {
            if (Modifier.isPublic(method.getModifiers())) {
                found.add(method.getName() + "/" + method.getParameterCount());
                Class<?> answer = LONG_ANSWERS.contains(method.getName()) ? long.class : int.class;
                Check.due("the answer of " + method, method.getReturnType() == answer ? 1 : 0, 1);
                for (Class<?> type : method.getParameterTypes()) {
                    Check.due("an argument of " + method, type == int.class ? 1 : 0, 1);
                }
            } else if (!method.isSynthetic()) {
                hidden.add(method.getName());
                Check.due("private " + method, Modifier.isPrivate(method.getModifiers()) ? 1 : 0, 1);
            }
        }
        Check.due("the methods", String.join(" ", found), String.join(" ", new TreeSet<>(List.of(FACE.split(" ")))));
        for (String name : hidden) {
            Check.due("a private method's name " + name, FACE.matches("(.* )?" + name + "/.*") ? 1 : 0, 0);
        }
        Check.due("constructors", ShuffleAlgebra.class.getConstructors().length, 1);
        Check.due("final", Modifier.isFinal(ShuffleAlgebra.class.getModifiers()) ? 1 : 0, 1);
    }

    private static void sizes() {
        int constants = 0;
        int fields = 0;
        for (Field field : ShuffleAlgebra.class.getDeclaredFields()) {
            int modifiers = field.getModifiers();
            boolean open = !Modifier.isPrivate(modifiers);
            constants += open ? 1 : 0;
            fields += Modifier.isStatic(modifiers) ? 0 : 1;
            Check.due("a constant " + field, !open || Modifier.isPublic(modifiers) && Modifier.isStatic(modifiers) ? 1 : 0, 1);
            Check.due("final " + field, !Modifier.isStatic(modifiers) || Modifier.isFinal(modifiers) ? 1 : 0, 1);
        }
        Check.due("public constants", constants, 15);
        Check.due("too many fields", fields > 20 ? 1 : 0, 0);
        Class<?>[] inside = ShuffleAlgebra.class.getDeclaredClasses();
        Check.due("too many classes", inside.length > 11 ? 1 : 0, 0);
        for (Class<?> one : inside) {
            Check.due("static " + one, Modifier.isStatic(one.getModifiers()) ? 1 : 0, 1);
            Check.due("hidden " + one, Modifier.isPublic(one.getModifiers()) ? 0 : 1, 1);
        }
    }
}
