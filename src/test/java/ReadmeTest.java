import java.io.IOException;
import java.lang.reflect.Modifier;
import java.nio.file.Files;
import java.nio.file.Path;
import java.util.ArrayList;
import java.util.Arrays;
import java.util.LinkedHashMap;
import java.util.List;
import java.util.Map;
import java.util.Set;
import java.util.TreeSet;
import java.util.regex.Matcher;
import java.util.regex.Pattern;

/**
 * README.md against the program and the document: its example program is put beside the class, compiled and run as it
 * says there; its example calls answer what it says; and its tables have every call, with the reasons for which the
 * document has it refused, and every constant.
 */
public final class ReadmeTest {
    private static final Path README = Path.of("README.md");
    private static final Path DOCUMENT = Path.of("../shared/DOC.md");
    private static final Path SOURCE = Path.of("src/main/java/ShuffleAlgebra.java");
    private static final Path TRIAL = Path.of("build/readme");
    private static final List<String> GROUPS = List.of("Words", "Lyndon words", "Polynomials", "Text", "Snapshot");
    private static final Pattern CALL_ROW = Pattern.compile("\\| `(\\w+)\\((.*)\\)` \\| .* \\| (.*) \\|");
    private static final Pattern CONSTANT_ROW = Pattern.compile("\\| `([A-Z_]+)` \\| `?([-\\w.]+)`? \\| .* \\|");
    private static final Pattern CONSTANT = Pattern.compile("\\b(NO_SUCH_\\w+|BAD_VALUE|FULL|TOO_LONG|OVERFLOW|NONE|NOT_LYNDON"
            + "|SYNTAX_ERROR|NO_VALUE)\\b");
    /** The refusals of which the page has no example, on an object of {@link Boundaries#rich()}. */
    private static final String REFUSALS = """
            x.appendLetter(2, 0); // FULL
            x.clearWord(3); // NO_SUCH_WORD
            x.wordLength(-1); // NO_SUCH_WORD
            x.wordLetter(3, 9); // NO_SUCH_WORD
            x.reverseWord(0, 3); // NO_SUCH_WORD: word 0 is aab
            x.subwordCount(3, 0); // NO_SUCH_WORD
            x.splitCount(0, 3, 0); // NO_SUCH_WORD
            x.coverCount(0, 0, 3); // NO_SUCH_WORD
            x.isLyndon(3); // NO_SUCH_WORD
            x.factorCount(3); // NO_SUCH_WORD
            x.factorStart(3, 9); // NO_SUCH_WORD
            x.nextLyndon(3, 9); // NO_SUCH_WORD
            x.bracket(3, 5); // NO_SUCH_WORD
            x.bracket(1, 5); // NO_SUCH_REGISTER
            x.basis(3, 5); // NO_SUCH_WORD
            x.basis(0, 5); // NO_SUCH_REGISTER
            x.clearPolynomial(5); // NO_SUCH_REGISTER
            x.addTerm(5, 3, 1000001); // NO_SUCH_REGISTER
            x.addTerm(0, 3, 1000001); // NO_SUCH_WORD
            x.addTerm(2, 0, 1); // FULL
            x.termLength(5, 9); // NO_SUCH_REGISTER
            x.termLength(0, 3); // NONE
            x.termLetter(5, 9, 9); // NO_SUCH_REGISTER
            x.termLetter(0, 1, 2); // NONE
            x.add(5, 1, 1); // NO_SUCH_REGISTER
            x.add(1, 1, 1); // OVERFLOW
            x.add(2, 0, 2); // FULL
            x.scale(5, 1001, 0); // NO_SUCH_REGISTER
            x.scale(1, 1001, 0); // BAD_VALUE
            x.scale(1, 2, 0); // OVERFLOW
            x.multiply(0, 3, 3, 5); // NO_SUCH_REGISTER
            x.multiply(1, 3, 4, 0); // TOO_LONG
            x.multiply(2, 1, 1, 0); // OVERFLOW
            x.multiply(0, 2, 0, 2); // FULL
            x.antipode(0, 5); // NO_SUCH_REGISTER
            x.residual(2, 5, 3, 0); // BAD_VALUE
            x.residual(0, 5, 3, 0); // NO_SUCH_REGISTER
            x.residual(1, 0, 3, 0); // NO_SUCH_LETTER
            x.derive(5, 3, 0); // NO_SUCH_REGISTER
            x.derive(1, 3, 0); // NO_SUCH_LETTER
            x.derive(1, 0, 0); // OVERFLOW: register 0 is 3-ab+2ba
            x.pair(0, 5); // NO_VALUE
            x.coordinates(0, 5); // NO_SUCH_REGISTER
            x.isLie(5); // NO_SUCH_REGISTER
            x.write(5); // NO_SUCH_REGISTER: the output is 3-ab+2ba
            type(x, "+");
            x.parsePolynomial(5); // NO_SUCH_REGISTER
            type(x, "Even");
            x.transform(0, 5); // NO_SUCH_REGISTER
            type(x, "1+2+3+4+5+6+7+8+9+0+1+2+3+4+5+6+7+8+9+0+1+2+3+4+5+6+7+8+9+00");
            x.appendCharacter(48); // FULL
            x.parsePolynomial(0); // 1: register 0 is 135
            type(x, "500001bab");
            x.parsePolynomial(0); // 1
            x.coordinates(0, 0); // OVERFLOW: register 0 is 500001bab
            type(x, "b+c+cbaccaba");
            x.parsePolynomial(0); // 3
            x.coordinates(0, 0); // FULL: register 0 is b+c+cbaccaba
            type(x, "b+c+bb+bc+cb+cc");
            x.parsePolynomial(2); // 6
            type(x, "bbbb+bbbc+bbcb+bbcc+bcbb+bcbc+bccb+bccc+cbbb+cbbc");
            x.parsePolynomial(3); // 10
            x.multiply(0, 2, 3, 2); // 60
            type(x, "a");
            x.parsePolynomial(3); // 1
            x.multiply(0, 2, 3, 2); // 60
            x.multiply(0, 3, 2, 2); // 60
            x.derive(2, 0, 0); // 120
            x.add(2, 3, 2); // 61
            x.derive(2, 0, 3); // FULL: register 3 is a
            spell(x, 0, "aacbabcb");
            x.bracket(0, 4); // FULL: register 4 is -a
            spell(x, 0, "acabcaba");
            x.basis(0, 4); // FULL: register 4 is -a
            """;

    public static void main(String[] args) throws IOException, InterruptedException, ReflectiveOperationException {
        String page = Files.readString(README);
        program(page);
        Script script = new Script(Boundaries.rich(""));
        for (String group : GROUPS) {
            script.run(block(section(page, "### " + group), "java").lines().toList());
        }
        Script refusals = new Script(Boundaries.rich(""));
        refusals.run(REFUSALS.lines().toList());
        Set<String> answered = new TreeSet<>(script.refusals());
        answered.addAll(refusals.refusals());
        Check.due("the refusals in the tables", refusalsIn(page), answered.toString());
        constants(page);
        if (Files.exists(DOCUMENT)) {
            document(page, Files.readString(DOCUMENT));
        }
        Check.finish();
    }

    /** Puts the example beside the class, compiles and runs it with the commands of the page. */
    private static void program(String page) throws IOException, InterruptedException {
        String section = section(page, "### Beside a program of your own");
        Path own = TRIAL.resolve("my-program");
        Path source = TRIAL.resolve(SOURCE);
        Files.createDirectories(own);
        Files.createDirectories(source.getParent());
        Files.writeString(source, Files.readString(SOURCE));
        Files.writeString(own.resolve("Example.java"), block(section, "java"));
        Process process = new ProcessBuilder("sh", "-e", "-c", block(section, "sh")).directory(TRIAL.toFile())
                .redirectErrorStream(true).start();
        String printed = new String(process.getInputStream().readAllBytes());
        Check.due("the exit code of the example", process.waitFor(), 0);
        Check.due("the output of the example", printed, block(section, "text"));
    }

    /** From a heading to the next one. */
    private static String section(String page, String heading) {
        Matcher matcher = Pattern.compile("(?ms)^" + heading + "$(.*?)(?=^##|\\z)").matcher(page);
        boolean found = matcher.find();
        Check.due("a section " + heading, found ? 1 : 0, 1);
        return found ? matcher.group(1) : "";
    }

    private static String block(String section, String kind) {
        Matcher matcher = Pattern.compile("(?ms)^```" + kind + "\n(.*?)^```$").matcher(section);
        boolean found = matcher.find();
        Check.due("a block of " + kind, found ? 1 : 0, 1);
        return found ? matcher.group(1) : "";
    }

    /** The rows of a group's table: each call with its arguments, and its reasons to be refused. */
    private static Map<String, List<String>> calls(String page, String group) {
        Map<String, List<String>> calls = new LinkedHashMap<>();
        for (String line : section(page, "### " + group).lines().toList()) {
            Matcher row = CALL_ROW.matcher(line);
            if (row.matches()) {
                calls.put(row.group(1) + "(" + row.group(2) + ")", constantsIn(row.group(3)));
            }
        }
        return calls;
    }

    private static List<String> constantsIn(String text) {
        List<String> constants = new ArrayList<>();
        Matcher matcher = CONSTANT.matcher(text);
        while (matcher.find()) {
            constants.add(matcher.group());
        }
        return constants;
    }

    private static String refusalsIn(String page) {
        Set<String> refusals = new TreeSet<>();
        for (String group : GROUPS) {
            calls(page, group).forEach((call, constants) -> {
                for (String constant : constants) {
                    refusals.add(call.substring(0, call.indexOf('(')) + " " + constant);
                }
            });
        }
        return refusals.toString();
    }

    private static void constants(String page) throws ReflectiveOperationException {
        int rows = 0;
        for (String line : section(page, "### What a call returns").lines().toList()) {
            Matcher row = CONSTANT_ROW.matcher(line);
            if (row.matches()) {
                rows++;
                long number = row.group(2).equals("Long.MIN_VALUE") ? Long.MIN_VALUE : Long.parseLong(row.group(2));
                Check.due(row.group(1), ShuffleAlgebra.class.getField(row.group(1)).getLong(null), number);
            }
        }
        Check.due("constants on the page", rows, 12);
        String kinds = "`CONCATENATION` (" + ShuffleAlgebra.CONCATENATION + "), `SHUFFLE` (" + ShuffleAlgebra.SHUFFLE
                + ") or `INFILTRATION` (" + ShuffleAlgebra.INFILTRATION + ")";
        Check.due(kinds + " on the page", page.contains(kinds) ? 1 : 0, 1);
    }

    /** The calls stand in the document's groups, with its names of the arguments, and are refused for its reasons. */
    private static void document(String page, String document) {
        int calls = 0;
        for (String group : GROUPS) {
            List<String> names = new ArrayList<>();
            for (Map.Entry<String, List<String>> call : calls(page, group).entrySet()) {
                calls++;
                String name = call.getKey().substring(0, call.getKey().indexOf('('));
                names.add("`" + name + "`");
                String head = call.getKey().replaceAll("(?<=[(, ])(?=\\w)", "int ");
                Check.due(head + " in the document", document.contains(" " + head + ";") ? 1 : 0, 1);
                Check.due("why " + name + " is refused", call.getValue().toString(), constantsIn(returns(document, name)).toString());
            }
            String title = group.equals("Lyndon words") ? group : group.toLowerCase();
            String says = "Ahead of the calls " + String.join(", ", names) + " the interface says: ---- " + title + ".";
            Check.due(says, document.contains(says) ? 1 : 0, 1);
        }
        long methods = Arrays.stream(ShuffleAlgebra.class.getDeclaredMethods())
                .filter(method -> Modifier.isPublic(method.getModifiers())).count();
        Check.due("calls on the page", calls, methods);
    }

    /** What a promise says behind "Returns", up to the next section. */
    private static String returns(String document, String name) {
        Matcher matcher = Pattern.compile("(?s)## Promise \\d+: " + name + "\n.*?\nReturns (.*?)\n##").matcher(document);
        return matcher.find() ? matcher.group(1) : "";
    }
}
