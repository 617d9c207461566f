import java.io.IOException;
import java.lang.reflect.Constructor;
import java.lang.reflect.Field;
import java.lang.reflect.Method;
import java.lang.reflect.Modifier;
import java.nio.file.Files;
import java.nio.file.Path;
import java.util.ArrayList;
import java.util.Arrays;
import java.util.List;
import java.util.Set;
import java.util.TreeSet;
import java.util.regex.Matcher;
import java.util.regex.Pattern;

/** The face as the document has it, and those rules of LANGUAGE.md that can be seen in the text. */
public final class LanguageTest {
    private static final String NO_SUCH = " NoSuchElementException";
    private static final String ILLEGAL = " IllegalArgumentException";
    private static final String[] FACE = {
        "int feed(int,int,int,int,int)", "int bus(int)" + ILLEGAL, "int fault()", "int count(int)" + NO_SUCH,
        "int stop(int,int)" + NO_SUCH, "int rider(int,int)" + NO_SUCH, "int paid(int,int)" + NO_SUCH,
        "int way(int,int)" + NO_SUCH, "int where(int)" + ILLEGAL, "int hold(int,int)" + NO_SUCH,
        "int sit(int,int,int)" + NO_SUCH, "boolean obey(int)", "int undo()", "int most(int)" + NO_SUCH,
        "int compare(int)" + NO_SUCH, "int best()", "int bell(int,int)" + NO_SUCH, "int door(int)" + NO_SUCH,
        "int two(int)" + NO_SUCH, "int flat()", "int hops(int)" + ILLEGAL, "int again(int)" + NO_SUCH,
        "int head(int,int,int)" + NO_SUCH, "void forget()", "int fits(int)" + NO_SUCH,
        "int game(int,int,int)" + NO_SUCH + ILLEGAL, "int week(int,int,int)" + NO_SUCH + ILLEGAL,
        "int walk(int)" + NO_SUCH, "int ting(int)" + NO_SUCH, "int soonest(int)" + ILLEGAL,
        "int dodge(int,int)" + NO_SUCH, "int worth(int)" + NO_SUCH, "int pace()", "long likely(int,int)" + NO_SUCH,
        "long mean(int)" + NO_SUCH, "void image()", "boolean restore()"};
    private static final String[] FORBIDDEN = {
        "->", "::", "\\btry\\b", "\\bcatch\\b", "\\bfinally\\b", "\\bsynchronized\\b", "\\bassert\\b", "Exact\\b",
        "\\bprotected\\b", "\\binstanceof\\b", "\\bdouble\\b", "\\bfloat\\b", "\\bHashMap\\b", "\\bSystem\\.(?!arraycopy)",
        "\\bThread\\b", "\\bRandom\\b", "\"\\s*\\+", "\\+\\s*\"", "\\bstatic\\s*\\{", "while \\(true\\)", "for \\(;;\\)"};

    public static void main(String[] args) throws IOException {
        face();
        String text = Files.readString(Path.of(args.length > 0 ? args[0] : ".", "src/main/java/TingDecks.java"));
        source(text.replaceAll("//[^\n]*|/\\*(?s:.*?)\\*/", ""));
        Check.end("LanguageTest");
    }

    private static void face() {
        Set<String> open = new TreeSet<>();
        Set<String> names = new TreeSet<>();
        Set<String> hidden = new TreeSet<>();
        for (Method m : TingDecks.class.getDeclaredMethods()) {
            if (Modifier.isPrivate(m.getModifiers())) {
                hidden.add(m.getName());
            } else if (!m.isSynthetic()) {
                names.add(m.getName());
                List<String> types = new ArrayList<>();
                for (Class<?> c : m.getParameterTypes()) {
                    types.add(c.getName());
                }
                String told = m.getReturnType().getName() + " " + m.getName() + "(" + String.join(",", types) + ")";
                for (Class<?> c : m.getExceptionTypes()) {
                    told += " " + c.getSimpleName();
                }
                open.add(told + (Modifier.isPublic(m.getModifiers()) ? "" : " not public"));
            }
        }
        yes("the face's methods: " + open, open.equals(new TreeSet<>(Arrays.asList(FACE))));
        for (Class<?> c : TingDecks.class.getDeclaredClasses()) {
            yes(c + " is static", Modifier.isStatic(c.getModifiers()));
            for (Method m : c.getDeclaredMethods()) {
                hidden.add(m.getName());
            }
        }
        hidden.retainAll(names);
        yes("no other method bears a name of the face: " + hidden, hidden.isEmpty());
        for (Field f : TingDecks.class.getDeclaredFields()) {
            boolean none = f.getName().equals("NONE");
            yes(f + " is private", none ? Modifier.isPublic(f.getModifiers()) : Modifier.isPrivate(f.getModifiers()));
            yes(f + " is final, if it is static", !Modifier.isStatic(f.getModifiers()) || Modifier.isFinal(f.getModifiers()));
        }
        Constructor<?>[] made = TingDecks.class.getDeclaredConstructors();
        yes("one public constructor", made.length == 1 && Modifier.isPublic(made[0].getModifiers())
                && made[0].getParameterCount() == 0);
        yes("a public final class", Modifier.isFinal(TingDecks.class.getModifiers())
                && Modifier.isPublic(TingDecks.class.getModifiers()));
        yes("some twelve classes", TingDecks.class.getDeclaredClasses().length < 12);
        Check.same("NONE", TingDecks.NONE, -1);
    }

    private static void source(String text) {
        Matcher imports = Pattern.compile("import ([^;]+);").matcher(text);
        while (imports.find()) {
            yes("import " + imports.group(1), imports.group(1).equals("java.util.NoSuchElementException"));
        }
        for (String sign : FORBIDDEN) {
            yes("no " + sign, !Pattern.compile(sign).matcher(text).find());
        }
        Matcher thrown = Pattern.compile("throw new (\\w+)").matcher(text);
        while (thrown.find()) {
            yes("throws " + thrown.group(1), thrown.group(1).equals("NoSuchElementException")
                    || thrown.group(1).equals("IllegalArgumentException"));
        }
        methodsAreShort(text.replaceAll("\\)\\s+throws", ") throws").split("\n"));
    }

    private static void methodsAreShort(String[] lines) {
        int start = 0;
        String name = "";
        Pattern head = Pattern.compile("^ {4,8}(?! )(?!.*\\bclass\\b)[^=;]*\\w+\\([^;]*\\{\\s*$");
        for (int i = 0; i < lines.length; i++) {
            if (head.matcher(lines[i]).find() && !lines[i].trim().matches("(if|for|while|switch|}).*")) {
                start = i;
                name = lines[i].trim();
            }
            if (lines[i].matches(" {4,8}}")) {
                yes("short: " + name, i - start < 60);
                yes("at most seven parameters: " + name, name.split(",").length <= 7);
            }
        }
    }

    private static void yes(String what, boolean so) {
        Check.same(what, so ? 1 : 0, 1);
    }
}
