import java.io.IOException;
import java.lang.reflect.InvocationTargetException;
import java.lang.reflect.Method;
import java.lang.reflect.Modifier;
import java.nio.file.Files;
import java.nio.file.Path;
import java.util.Map;
import java.util.TreeMap;
import java.util.regex.Matcher;
import java.util.regex.Pattern;

/** The run in README.md answers what its rows tell, and README.md names each call of the face. */
public final class ReadmeTest {

    private static final Pattern ROW = Pattern.compile(
            " {4}planner\\.(\\w+)\\(([^)]*)\\); +// (?:throws (\\w+)|(\\w+): .+)");
    private static final Pattern TYPING = Pattern.compile(
            " {4}for \\(char sign : \"([^\"]*)\"\\.toCharArray\\(\\)\\) planner\\.append\\(sign\\);");
    private static final String NEW_ROW = "    CommitteePlanner planner = new CommitteePlanner();";

    private final Map<String, Method> calls = new TreeMap<>();
    private CommitteePlanner planner;
    private int rows;

    public static void main(String[] args) throws IOException {
        String text = Files.readString(Path.of("README.md"));
        ReadmeTest test = new ReadmeTest();
        test.namesEachCall(text);
        for (String row : text.split("\n")) {
            test.perform(row);
        }
        Check.same("the run is there", true, test.rows > 20);
        Check.end("ReadmeTest");
    }

    private ReadmeTest() {
        for (Method method : CommitteePlanner.class.getDeclaredMethods()) {
            if (Modifier.isPublic(method.getModifiers())) {
                calls.put(method.getName(), method);
            }
        }
    }

    private void namesEachCall(String text) {
        for (String name : calls.keySet()) {
            Check.same("README.md names " + name, true, text.contains("`" + name + "`"));
        }
    }

    private void perform(String row) {
        Matcher call = ROW.matcher(row);
        Matcher typing = TYPING.matcher(row);
        if (row.equals(NEW_ROW)) {
            planner = new CommitteePlanner();
        } else if (typing.matches()) {
            Make.type(planner, typing.group(1));
        } else if (call.matches()) {
            String due = call.group(3) == null ? call.group(4) : call.group(3);
            Check.same("README.md: " + row.trim(), due, answer(call.group(1), call.group(2)));
            rows++;
        } else {
            Check.same("README.md, a row that cannot be performed: " + row, false, row.contains("planner."));
        }
    }

    /** What the call answers, or the short name of what it throws. */
    private String answer(String name, String list) {
        Method method = calls.get(name);
        if (method == null) {
            return "no such call";
        }
        String[] words = list.isEmpty() ? new String[0] : list.split(", ");
        Object[] arguments = new Object[words.length];
        for (int i = 0; i < words.length; i++) {
            boolean isTruth = words[i].equals("true") || words[i].equals("false");
            arguments[i] = isTruth ? (Object) Boolean.valueOf(words[i]) : (Object) Integer.valueOf(words[i]);
        }
        try {
            return String.valueOf(method.invoke(planner, arguments));
        } catch (InvocationTargetException e) {
            return e.getCause().getClass().getSimpleName();
        } catch (IllegalAccessException e) {
            return "no access";
        }
    }
}
