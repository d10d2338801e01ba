import java.io.IOException;
import java.lang.reflect.Constructor;
import java.lang.reflect.Field;
import java.lang.reflect.Method;
import java.lang.reflect.Modifier;
import java.nio.charset.StandardCharsets;
import java.nio.file.Files;
import java.nio.file.Paths;
import java.util.ArrayList;
import java.util.Arrays;
import java.util.List;
import java.util.Set;
import java.util.TreeSet;
import java.util.regex.Matcher;
import java.util.regex.Pattern;

/** The face of the document, and those rules of ../shared/LANGUAGE.md that a look at class and source can tell. */
public final class LanguageTest {
    private static final String[] FACE = {
        "boolean as(int)", "boolean end(int)", "boolean far(int,int)", "boolean haze(int,int)",
        "boolean like(int,int,int)", "boolean locker(int,int,int)", "int all(int)", "int along(int,int)",
        "int annul(int)", "int book()", "int change(int)", "int changed(int)", "int dim(int,int)",
        "int fault(int)", "int feed(int,int,int,int,int)", "int flown(int,int,int)", "int heard(int)",
        "int hoist(int,int)", "int holds(int,int,int)", "int letter(int,boolean,int)", "int line(int,int)",
        "int may(int,int,int,int)", "int message()", "int read(int,int,int)", "int send(int,int)",
        "int senses()", "int sent(int)", "int taken(int,int)", "int tells(int)"
    };
    private static final String[] NEVER = {
        "throw", "throws", "try", "catch", "synchronized", "assert", "package", "protected", "var", "yield",
        "Object", "Exception", "equals", "hashCode", "Float", "Double", "Random", "Thread", "Class"
    };

    public static void main(String[] args) throws IOException {
        face();
        classes();
        if (args.length > 0) {
            source(new String(Files.readAllBytes(Paths.get(args[0])), StandardCharsets.UTF_8));
        }
        Kit.finish();
    }

    private static void yes(String what, boolean is) {
        Kit.due(what, is, true);
    }

    private static String named(Method m) {
        List<String> types = new ArrayList<>();
        for (Class<?> type : m.getParameterTypes()) {
            types.add(type.getName());
        }
        return m.getReturnType().getName() + " " + m.getName() + "(" + String.join(",", types) + ")";
    }

    private static void face() {
        Set<String> open = new TreeSet<>();
        for (Method m : SquadronFlags.class.getDeclaredMethods()) {
            if (!Modifier.isPrivate(m.getModifiers())) {
                open.add((Modifier.isPublic(m.getModifiers()) ? "" : "not public: ") + named(m));
            }
        }
        yes("the methods of the document alone: " + open, open.equals(new TreeSet<>(Arrays.asList(FACE))));
        List<String> fields = new ArrayList<>();
        for (Field f : SquadronFlags.class.getDeclaredFields()) {
            if (!Modifier.isPrivate(f.getModifiers())) {
                fields.add(Modifier.toString(f.getModifiers()) + " " + f.getType() + " " + f.getName());
            }
        }
        yes("NONE alone: " + fields, fields.equals(Arrays.asList("public static final int NONE")));
        Constructor<?>[] made = SquadronFlags.class.getDeclaredConstructors();
        yes("one constructor", made.length == 1 && Modifier.isPublic(made[0].getModifiers())
                && made[0].getParameterCount() == 0);
        int modifiers = SquadronFlags.class.getModifiers();
        yes("public and final", Modifier.isPublic(modifiers) && Modifier.isFinal(modifiers));
    }

    private static void classes() {
        List<Class<?>> all = new ArrayList<>(Arrays.asList(SquadronFlags.class.getDeclaredClasses()));
        for (Class<?> c : all) {
            yes("static: " + c, Modifier.isStatic(c.getModifiers()));
            yes("not open: " + c, !Modifier.isPublic(c.getModifiers()) && !Modifier.isProtected(c.getModifiers()));
            yes("none inside: " + c, c.getDeclaredClasses().length == 0);
        }
        all.add(SquadronFlags.class);
        yes("some twelve classes: " + all.size(), all.size() <= 12);
        Set<String> names = new TreeSet<>();
        for (String method : FACE) {
            names.add(method.replaceAll(".* |\\(.*", ""));
        }
        for (Class<?> c : all) {
            int fields = 0;
            for (Field f : c.getDeclaredFields()) {
                boolean fixed = Modifier.isStatic(f.getModifiers());
                yes("final: " + f, !fixed || Modifier.isFinal(f.getModifiers()));
                fields += fixed ? 0 : 1;
            }
            yes("some twenty fields: " + c, fields <= 20);
            for (Method m : c.getDeclaredMethods()) {
                yes("seven parameters: " + m, m.getParameterCount() <= 7);
                yes("no name of the face: " + m, c == SquadronFlags.class && Modifier.isPublic(m.getModifiers())
                        || !names.contains(m.getName()));
            }
        }
    }

    private static void source(String text) {
        yes("plain characters", text.matches("[\\n -~]*"));
        String code = text.replaceAll("(?s)/\\*.*?\\*/", "").replaceAll("//[^\n]*", "");
        for (String word : NEVER) {
            yes("no " + word, !Pattern.compile("\\b" + word + "\\b").matcher(code).find());
        }
        yes("no lambda", !code.contains("->"));
        yes("no method reference", !code.contains("::"));
        yes("Arrays alone is imported", code.replaceFirst("import java\\.util\\.Arrays;", "").indexOf("import") < 0);
        uses(code, "System", "arraycopy");
        uses(code, "Arrays", "copyOf", "copyOfRange", "fill");
        uses(code, "Math", "min", "max");
        uses(code, "Long", "bitCount");
        uses(code, "Integer");
        int length = 0;
        for (String line : text.split("\n")) {
            length = line.matches("    (    )?[a-zA-Z].*\\{") ? 0 : length + 1;
            yes("a short method, ending with: " + line, !line.matches("    (    )?\\}") || length <= 60
                    || line.equals("    }"));
        }
    }

    /** Of a class of the library only these. */
    private static void uses(String code, String owner, String... names) {
        Matcher m = Pattern.compile("\\b" + owner + "\\.(\\w+)").matcher(code);
        while (m.find()) {
            yes(m.group() + " is in the part of the library that may be used",
                    Arrays.asList(names).contains(m.group(1)));
        }
    }
}
