import java.io.IOException;
import java.lang.reflect.Constructor;
import java.lang.reflect.Field;
import java.lang.reflect.Method;
import java.lang.reflect.Modifier;
import java.nio.file.Files;
import java.nio.file.Path;
import java.util.ArrayList;
import java.util.List;
import java.util.Set;
import java.util.TreeSet;
import java.util.regex.Matcher;
import java.util.regex.Pattern;

/** The face of the class, and those rules of LANGUAGE.md that can be seen in its text. */
public final class LanguageTest {

    private static final String[] FACE = {
        "int clear()",
        "int addPerson(int,int,int,int) IllegalArgumentException IllegalStateException",
        "boolean setConflict(int,int,boolean) IndexOutOfBoundsException IllegalArgumentException",
        "boolean setBusy(int,int,int,boolean) IndexOutOfBoundsException IllegalArgumentException",
        "int person(int,int) IndexOutOfBoundsException IllegalArgumentException",
        "boolean isFree(int,int,int) IndexOutOfBoundsException IllegalArgumentException",
        "int freeDay(int) IndexOutOfBoundsException NoSuchElementException",
        "int addThesis(int,int,int,int) IndexOutOfBoundsException IllegalArgumentException IllegalStateException",
        "int thesis(int,int) IndexOutOfBoundsException IllegalArgumentException",
        "int join(int,int) IndexOutOfBoundsException UnsupportedOperationException",
        "int leave(int,int) IndexOutOfBoundsException IllegalStateException",
        "int replace(int,int,int) IndexOutOfBoundsException IllegalStateException UnsupportedOperationException",
        "int whyNotJoin(int,int) IndexOutOfBoundsException",
        "int lacks(int,int) IndexOutOfBoundsException IllegalArgumentException",
        "int replacements(int,int) IndexOutOfBoundsException IllegalStateException",
        "int completion(int) IndexOutOfBoundsException NoSuchElementException",
        "int complete(int) IndexOutOfBoundsException NoSuchElementException",
        "int reason() NoSuchElementException",
        "int place(int,int,int,int) IndexOutOfBoundsException IllegalArgumentException"
            + " UnsupportedOperationException",
        "int takeBack(int) IndexOutOfBoundsException IllegalStateException",
        "int whyNotPlace(int,int,int,int) IndexOutOfBoundsException IllegalArgumentException",
        "int earliest(int) IndexOutOfBoundsException NoSuchElementException",
        "int deadline(int,int) IndexOutOfBoundsException IllegalArgumentException IllegalStateException",
        "int goOn(int) IndexOutOfBoundsException IllegalStateException",
        "int mostUrgent() NoSuchElementException",
        "int inRoom(int,int,int) IndexOutOfBoundsException IllegalArgumentException NoSuchElementException",
        "int await(int) IndexOutOfBoundsException IllegalStateException",
        "int serve()",
        "int waiting(int) NoSuchElementException",
        "int pass(int) IllegalArgumentException IllegalStateException",
        "int account(int) IllegalArgumentException",
        "double meanLoad() ArithmeticException",
        "int append(char) IllegalArgumentException IllegalStateException",
        "int read() IllegalArgumentException IllegalStateException",
        "int errorPosition() NoSuchElementException",
        "int undo() NoSuchElementException",
        "int save()",
        "int restore() IllegalStateException"};

    private static final String[] BANNED = {"->", "::", "\\bassert\\b", "\\bsynchronized\\b", "\\bfinally\\b",
        "\\btry\\b", "\\bcatch\\b", "\\bstatic \\{", "\\bequals\\(", "\\bhashCode\\b", "\\btoString\\b",
        "System\\.(?!arraycopy)", "\\bThread\\b", "\\bRandom\\b", "\\bObject\\b", "Exact\\(", "\\bvar\\b",
        "getMessage", "\\[\\]\\[\\]\\[\\]", "\\bprotected\\b", "\\bfloat\\b", "\\bMath\\.(?!max|min)"};

    private static final Pattern THROW = Pattern.compile("throw new (IllegalStateException|IllegalArgumentException"
        + "|IndexOutOfBoundsException|ArithmeticException|UnsupportedOperationException|NoSuchElementException"
        + "|RuntimeException)\\((\"[^\"]*\")?\\);");
    private static final Pattern METHOD = Pattern.compile(
        "^ {4}(?: {4})?(?:(?:public|private|static|final) )*(?:[\\w\\[\\]]+ )?(\\w+)\\(([^)]*)\\).*$");

    public static void main(String[] args) throws IOException {
        String text = Files.readString(Path.of("src/main/java/CommitteePlanner.java"));
        face();
        privateNames();
        bannedWords(text);
        methods(text);
        Check.end("LanguageTest");
    }

    private static void face() {
        Class<?> type = CommitteePlanner.class;
        Check.same("the class", Modifier.PUBLIC | Modifier.FINAL, type.getModifiers());
        Set<String> due = new TreeSet<>(List.of(FACE));
        Set<String> found = new TreeSet<>();
        for (Method method : type.getDeclaredMethods()) {
            if (!Modifier.isPrivate(method.getModifiers())) {
                found.add(signature(method));
                Check.same("only public: " + method, Modifier.PUBLIC, method.getModifiers());
            }
        }
        Check.same("the methods", due, found);
        Check.same("one constructor", 1, type.getDeclaredConstructors().length);
        for (Constructor<?> constructor : type.getDeclaredConstructors()) {
            Check.same("constructor", "public CommitteePlanner()", constructor.toString());
        }
        for (Field field : type.getDeclaredFields()) {
            Check.same("private: " + field, true, Modifier.isPrivate(field.getModifiers()));
        }
    }

    private static String signature(Method method) {
        StringBuilder text = new StringBuilder();
        text.append(method.getReturnType().getSimpleName()).append(' ').append(method.getName()).append('(');
        for (int i = 0; i < method.getParameterCount(); i++) {
            text.append(i == 0 ? "" : ",").append(method.getParameterTypes()[i].getSimpleName());
        }
        text.append(')');
        for (Class<?> thrown : method.getExceptionTypes()) {
            text.append(' ').append(thrown.getSimpleName());
        }
        return text.toString();
    }

    private static void privateNames() {
        Set<String> names = new TreeSet<>();
        for (Method method : CommitteePlanner.class.getDeclaredMethods()) {
            if (Modifier.isPublic(method.getModifiers())) {
                names.add(method.getName());
            }
        }
        List<Class<?>> types = new ArrayList<>(List.of(CommitteePlanner.class.getDeclaredClasses()));
        Check.same("at most twelve classes", true, types.size() < 12);
        types.add(CommitteePlanner.class);
        for (Class<?> type : types) {
            int fields = 0;
            for (Field field : type.getDeclaredFields()) {
                boolean isStatic = Modifier.isStatic(field.getModifiers());
                fields += isStatic ? 0 : 1;
                Check.same("static and final: " + field, true,
                        !isStatic || Modifier.isFinal(field.getModifiers()));
            }
            Check.same("at most twenty fields: " + type, true, fields <= 20);
            for (Method method : type.getDeclaredMethods()) {
                boolean isOfFace = type == CommitteePlanner.class && Modifier.isPublic(method.getModifiers());
                Check.same("own name: " + method, true, isOfFace || !names.contains(method.getName()));
                Check.same("at most seven parameters: " + method, true, method.getParameterCount() <= 7);
            }
        }
    }

    private static void bannedWords(String text) {
        String code = text.replaceAll("(?s)/\\*.*?\\*/", "").replaceAll("//[^\n]*", "")
                .replaceAll("\"[^\"\n]*\"", "\"\"");
        for (String word : BANNED) {
            Check.same("without " + word, false, Pattern.compile(word).matcher(code).find());
        }
        Matcher imports = Pattern.compile("\\bimport ([^;]*);").matcher(code);
        while (imports.find()) {
            Check.same("import", "java.util.NoSuchElementException", imports.group(1));
        }
        Check.same("no package line", false, code.contains("package "));
    }

    /** Methods are short, make no objects outside constructors, and throw only as rule 6 tells. */
    private static void methods(String text) {
        String name = "";
        int start = 0;
        String[] lines = text.split("\n");
        for (int i = 0; i < lines.length; i++) {
            Matcher method = METHOD.matcher(lines[i]);
            if (method.matches() && !lines[i].endsWith(";")) {
                name = method.group(1);
                start = i;
            }
            if (lines[i].matches(" {4}(?: {4})?}")) {
                Check.same("short: " + name, true, i - start < 60 || lines[i].startsWith("    }"));
            }
            if (lines[i].contains("throw ")) {
                Check.same("throws by rule 6: " + lines[i], true, THROW.matcher(lines[i]).find());
                Check.same("not in a constructor: " + lines[i], false, Character.isUpperCase(name.charAt(0)));
            } else if (lines[i].contains("new ") && !lines[i].matches("\\s*(/\\*\\*|//|\\*).*")) {
                Check.same("made in a constructor: " + lines[i], true, Character.isUpperCase(name.charAt(0)));
            }
        }
    }
}
