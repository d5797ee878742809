import java.io.IOException;
import java.lang.reflect.Method;
import java.nio.file.Files;
import java.nio.file.Path;
import java.util.ArrayList;
import java.util.LinkedHashMap;
import java.util.List;
import java.util.Map;
import java.util.Set;
import java.util.regex.Matcher;
import java.util.regex.Pattern;

/**
 * Compares the document with the tests of the boundaries: what a test says that it holds stands in the document, and
 * each sentence of it is held by a test, but for those that name no boundary case.
 */
public final class DocumentTest {
    private static final Path DOCUMENT = Path.of("../shared/DOC.md");
    private static final Class<?>[] TESTS = {BoundaryDefinitionsTest.class, BoundaryErrorsTest.class, BoundaryWordsTest.class,
        BoundaryLyndonTest.class, BoundaryTermsTest.class, BoundaryProductsTest.class, BoundaryResultsTest.class,
        BoundaryTextTest.class, BoundarySnapshotTest.class};
    /** The class and its face stand in LanguageTest, and nothing can be tested of what is free. */
    private static final Set<String> SECTIONS_WITHOUT_TESTS = Set.of("The public face", "Not promised");
    private static final Set<String> NO_BOUNDARIES = Set.of(
            "A calculator for the shuffle algebra of words: concatenation, shuffle and infiltration products, subword counts, Lyndon"
                    + " words, brackets of Lyndon words, and coordinates in a basis of shuffle products of Lyndon words",
            "what later calls answer is free",
            "There are two orders of words",
            "A polynomial is a sum of terms");
    private static final Pattern TITLE = Pattern.compile("## (Promise \\d+|[^\n:]*)[^\n]*\n");
    private static final Pattern PARAGRAPH = Pattern.compile("(?s)(Words|Word buffers|Polynomials|Products of words|Lyndon words"
            + "|Brackets|Basis|Text|Output|Errors|More precisely|The constants)[.:] (.*)");

    public static void main(String[] args) throws IOException {
        if (!Files.exists(DOCUMENT)) {
            System.out.println("There is no " + DOCUMENT + " to compare with");
            return;
        }
        Map<String, String> sections = sections(Files.readString(DOCUMENT));
        Map<String, List<String>> held = held();
        held.forEach((section, quotes) -> {
            for (String quote : quotes) {
                boolean stands = sections.getOrDefault(section, "").contains(quote);
                Check.due(section + ": \"" + quote + "\" in the document", stands ? 1 : 0, 1);
            }
        });
        sections.forEach((section, text) -> {
            for (String sentence : sentences(text)) {
                boolean has = held.getOrDefault(section, List.of()).stream().anyMatch(quote -> quote.contains(sentence));
                Check.due(section + ": a test of \"" + sentence + "\"", has || NO_BOUNDARIES.contains(sentence) ? 1 : 0, 1);
            }
        });
        Check.due("promises", sections.keySet().stream().filter(section -> section.startsWith("Promise ")).count(), 39);
        Check.due("sections", sections.size(), 39 + 12 + 1);
        Check.finish();
    }

    /** What the tests say that they hold, by sections. */
    private static Map<String, List<String>> held() {
        Map<String, List<String>> held = new LinkedHashMap<>();
        for (Class<?> tests : TESTS) {
            for (Method test : tests.getDeclaredMethods()) {
                Holds holds = test.getAnnotation(Holds.class);
                if (holds != null) {
                    held.computeIfAbsent(holds.in(), section -> new ArrayList<>()).addAll(List.of(holds.says()));
                }
            }
        }
        return held;
    }

    /** The text of each section by its title, and that of "Terms" by what its paragraphs begin with. */
    private static Map<String, String> sections(String document) {
        Map<String, String> sections = new LinkedHashMap<>();
        Matcher title = TITLE.matcher(document);
        List<Integer> starts = new ArrayList<>();
        List<String> titles = new ArrayList<>();
        List<Integer> ends = new ArrayList<>();
        while (title.find()) {
            titles.add(title.group(1));
            ends.add(title.start());
            starts.add(title.end());
        }
        ends.add(document.length());
        for (int i = 0; i < titles.size(); i++) {
            String text = document.substring(starts.get(i), ends.get(i + 1));
            if (titles.get(i).equals("Terms")) {
                addParagraphs(sections, text);
            } else if (!SECTIONS_WITHOUT_TESTS.contains(titles.get(i))) {
                sections.put(titles.get(i), plain(text));
            }
        }
        return sections;
    }

    private static void addParagraphs(Map<String, String> sections, String text) {
        String last = "";
        for (String paragraph : text.split("\n\n")) {
            Matcher matcher = PARAGRAPH.matcher(paragraph.strip());
            if (matcher.matches()) {
                last = matcher.group(1);
                sections.put(last, plain(matcher.group(2)));
            } else if (!paragraph.startsWith("Ahead of the calls")) {
                sections.merge(last, plain(paragraph), (before, more) -> (before + " " + more).strip());
            }
        }
    }

    /** Without marks and line breaks, and without the heads of methods and the dashes of lists. */
    private static String plain(String text) {
        return text.replace("`", "").replaceAll("(?m)^(int |long )?\\w+\\([^)]*\\): ", "").replaceAll("(?m)^- (.*)$", "$1.")
                .replaceAll("\\s+", " ").strip();
    }

    /** The parts of a section between full stops and semicolons, but for those in brackets. */
    private static List<String> sentences(String text) {
        List<String> sentences = new ArrayList<>();
        for (String sentence : text.split("(?<=[A-Za-z0-9)])\\.( |$)")) {
            int depth = 0;
            int start = 0;
            for (int i = 0; i <= sentence.length(); i++) {
                char c = i < sentence.length() ? sentence.charAt(i) : ';';
                depth += c == '(' ? 1 : c == ')' ? -1 : 0;
                if (c == ';' && depth == 0) {
                    sentences.add(sentence.substring(start, i).strip());
                    start = i + 1;
                }
            }
        }
        sentences.removeIf(String::isEmpty);
        return sentences;
    }
}
