import java.lang.reflect.Field;
import java.lang.reflect.Method;
import java.util.HashMap;
import java.util.List;
import java.util.Map;
import java.util.Set;
import java.util.TreeSet;
import java.util.regex.Matcher;
import java.util.regex.Pattern;

/**
 * Lines of Java with calls on an object x, each with a comment that tells the answer and what the call has made:
 * {@code x.bracket(0, 1); // 2: register 1 is ab-ba}. They are read and run one by one, and what they tell is checked.
 * A line may also type a text into the input, or spell a word into a buffer: {@code spell(x, 0, "ab");}
 */
final class Script {
    private static final String NEW = "ShuffleAlgebra x = new ShuffleAlgebra();";
    private static final Pattern TYPE = Pattern.compile("type\\(x, \"(.*)\"\\);");
    private static final Pattern SPELL = Pattern.compile("spell\\(x, (\\d), \"(.*)\"\\);");
    private static final Pattern CALL = Pattern.compile("x\\.(\\w+)\\((.*)\\); *// ([-\\w]+( - \\d+)?)(: (.*))?");
    private static final Pattern MADE = Pattern.compile("(word \\d|register \\d|the output) is (\\S+)");

    private final Map<String, Method> methods = new HashMap<>();
    private final Set<String> refusals = new TreeSet<>();
    private ShuffleAlgebra x;

    Script(ShuffleAlgebra x) {
        this.x = x;
        for (Method method : ShuffleAlgebra.class.getMethods()) {
            methods.put(method.getName(), method);
        }
    }

    /** The calls that were refused so far, each with the constant: {@code bracket NOT_LYNDON}. */
    Set<String> refusals() {
        return refusals;
    }

    void run(List<String> lines) throws ReflectiveOperationException {
        for (String line : lines) {
            Matcher typed = TYPE.matcher(line);
            Matcher spelt = SPELL.matcher(line);
            if (line.equals(NEW)) {
                x = new ShuffleAlgebra();
            } else if (typed.matches()) {
                Check.type(x, typed.group(1));
            } else if (spelt.matches()) {
                Check.setWord(x, Integer.parseInt(spelt.group(1)), spelt.group(2));
            } else if (!line.isBlank()) {
                runCall(line);
            }
        }
    }

    private void runCall(String line) throws ReflectiveOperationException {
        Matcher call = CALL.matcher(line);
        if (!call.matches() || !methods.containsKey(call.group(1))) {
            Check.due(line, "no call with its answer", "a call with its answer");
            return;
        }
        Object[] arguments = call.group(2).isEmpty() ? new Object[0] : arguments(call.group(2).split(", "));
        long answer = ((Number) methods.get(call.group(1)).invoke(x, arguments)).longValue();
        Check.due(line, answer, numberOf(call.group(3)));
        if (Character.isUpperCase(call.group(3).charAt(0))) {
            refusals.add(call.group(1) + " " + call.group(3).split(" ")[0]);
        }
        if (call.group(6) != null) {
            checkMade(line, call.group(6));
        }
    }

    private static Object[] arguments(String[] texts) throws ReflectiveOperationException {
        Object[] arguments = new Object[texts.length];
        for (int i = 0; i < texts.length; i++) {
            arguments[i] = (int) numberOf(texts[i].replace("ShuffleAlgebra.", ""));
        }
        return arguments;
    }

    /** A number, a constant of the class, or a constant minus a number. */
    private static long numberOf(String text) throws ReflectiveOperationException {
        if (!Character.isUpperCase(text.charAt(0))) {
            return Long.parseLong(text);
        }
        String[] parts = text.split(" - ");
        Field constant = ShuffleAlgebra.class.getField(parts[0]);
        return constant.getLong(null) - (parts.length > 1 ? Long.parseLong(parts[1]) : 0);
    }

    private void checkMade(String line, String comment) {
        Matcher made = MADE.matcher(comment);
        if (!made.matches()) {
            Check.due(line, comment, "a comment that can be checked");
            return;
        }
        String part = made.group(1);
        int number = part.charAt(part.length() - 1) - '0';
        String got = part.startsWith("word") ? Check.word(x, number)
                : part.startsWith("register") ? text(number) : Check.output(x);
        Check.due(line, got, made.group(2));
    }

    /** A register as the output would have it, which stays as it is. */
    private String text(int register) {
        StringBuilder text = new StringBuilder();
        for (String term : Check.polynomial(x, register).split(" ")) {
            int star = term.indexOf('*');
            if (star < 0) {
                return "0";
            }
            String number = term.substring(0, star);
            String word = term.substring(star + 1);
            if (!word.isEmpty() && (number.equals("1") || number.equals("-1"))) {
                number = number.replace("1", "");
            }
            text.append(text.length() > 0 && !number.startsWith("-") ? "+" : "").append(number).append(word);
        }
        return text.toString();
    }
}
