import java.io.IOException;
import java.lang.reflect.Constructor;
import java.lang.reflect.Field;
import java.lang.reflect.Method;
import java.lang.reflect.Modifier;
import java.nio.file.Files;
import java.nio.file.Path;
import java.util.ArrayList;
import java.util.Arrays;
import java.util.HashMap;
import java.util.HashSet;
import java.util.List;
import java.util.Map;
import java.util.Set;
import java.util.TreeSet;
import java.util.regex.Matcher;
import java.util.regex.Pattern;

/** The class's face, and those rules of LANGUAGE.md that can be seen in the text of its file. */
public final class LanguageTest {
    private static final String FACE = "list(II)I listed(I)I saying(III)I ship(II)I of(II)I"
            + " change(III)I ofShip(II)I steer(III)I thick(I)I go(I)I now(I)I ahead(III)I"
            + " later(III)I fog(II)I lands(I)I closes(II)I settled()I finishFor(II)I kindFor(II)I"
            + " eyesFor(II)I speedFor(II)I decide(I)I fits(II)I kinds(II)I committee(I)I"
            + " odds(III)J seed(I)I feed(II)I wipe()I text()I hold(II)I as(II)I sheet(III)I"
            + " write(III)I copy(IIIII)I load(I)I judge(I)I image()I undo()I tear()I count(I)I"
            + " status(I)I";
    private static final String[] FORBIDDEN = {"throw", "throws", "try", "catch", "synchronized",
        "assert", "->", "::", "double", "float", "static \\{", "package", "Exact", "MAX_VALUE",
        "MIN_VALUE", "System\\.(?!arraycopy)", "import (?!java\\.util\\.Arrays;)", "var", "goto",
        "hashCode", "toString", "Object", "native", "volatile", "transient", "protected"};
    private static final Pattern METHOD =
            Pattern.compile("^ +(?:public |private )?(?:static )?[\\w\\[\\]]+ (\\w+)\\(([^;={]*)\\) \\{$");

    private static int wrong = 0;

    private static void must(boolean holds, String otherwise) {
        if (!holds) {
            wrong++;
            System.out.println(otherwise);
        }
    }

    private static String sign(Class<?> type) {
        return type == long.class ? "J" : type == int.class ? "I" : type.getName();
    }

    private static void face() {
        Set<String> due = new TreeSet<>(Arrays.asList(FACE.split(" ")));
        Set<String> is = new TreeSet<>();
        Set<String> hidden = new HashSet<>();
        for (Method m : VaguePort.class.getDeclaredMethods()) {
            StringBuilder b = new StringBuilder(m.getName()).append('(');
            for (Class<?> p : m.getParameterTypes()) {
                b.append(sign(p));
            }
            if (Modifier.isPublic(m.getModifiers())) {
                is.add(b.append(')').append(sign(m.getReturnType())).toString());
            } else {
                must(Modifier.isPrivate(m.getModifiers()), m + " is neither public nor private");
                hidden.add(m.getName());
            }
        }
        must(due.equals(is), "the face is " + is);
        must(due.size() == 42, "the face that is due has " + due.size() + " methods");
        for (String sign : due) {
            must(!hidden.contains(sign.substring(0, sign.indexOf('('))), sign + " is private, too");
        }
        for (Field f : VaguePort.class.getDeclaredFields()) {
            must(Modifier.isPrivate(f.getModifiers()), f + " is not private");
        }
        Constructor<?>[] made = VaguePort.class.getDeclaredConstructors();
        must(made.length == 1 && made[0].getParameterCount() == 0
                && Modifier.isPublic(made[0].getModifiers()), "the constructor is not as told");
        must(Modifier.isFinal(VaguePort.class.getModifiers()), "the class is not final");
        for (Class<?> c : VaguePort.class.getDeclaredClasses()) {
            must(Modifier.isStatic(c.getModifiers()), c + " is not static");
            must(c.getDeclaredFields().length <= 20, c + " has too many fields");
        }
    }

    private static String bare(String source) {
        return source.replaceAll("(?s)/\\*.*?\\*/", "").replaceAll("//[^\n]*", "")
                .replaceAll("\"[^\"\n]*\"", "\"\"").replaceAll("'[^'\n]*'", "' '");
    }

    private static void words(String source) {
        for (String word : FORBIDDEN) {
            String edged = word.matches("\\w+") ? "\\b" + word + "\\b" : word;
            must(!Pattern.compile(edged).matcher(source).find(), "the file has " + word);
        }
        for (int i = 0; i < source.length(); i++) {
            must(source.charAt(i) < 128, "a sign above 127");
        }
        Matcher made = Pattern.compile("(?m)^.*\\bnew\\b.*$").matcher(source);
        while (made.find()) {
            must(made.group().contains("private final"), "made outside of a constructor: "
                    + made.group().trim());
        }
    }

    /** Each method's body by its name; names are kept apart, so that calls can be followed. */
    private static Map<String, List<String>> bodies(String source) {
        Map<String, List<String>> bodies = new HashMap<>();
        List<String> body = null;
        String indent = "";
        String joined = source.replaceAll(",\\s*\n\\s+", ", ");
        for (String line : joined.split("\n")) {
            Matcher m = METHOD.matcher(line);
            if (body == null && m.find()) {
                body = new ArrayList<>();
                indent = line.substring(0, line.length() - line.stripLeading().length());
                must(bodies.put(m.group(1), body) == null, m.group(1) + " is there twice");
                must(m.group(2).split(",").length <= 7, m.group(1) + " takes too many");
            } else if (body != null && line.equals(indent + "}")) {
                must(body.size() <= 60, "a method is too long, before " + body);
                body = null;
            } else if (body != null) {
                body.add(line);
            }
        }
        return bodies;
    }

    private static int depth(String name, Map<String, List<String>> bodies, List<String> open) {
        if (open.contains(name) || open.size() > 12) {
            must(false, "calls itself: " + open);
            return 99;
        }
        open.add(name);
        int deepest = 0;
        Matcher called = Pattern.compile("(\\w+)\\(").matcher(String.join("\n", bodies.get(name)));
        while (called.find()) {
            if (bodies.containsKey(called.group(1))) {
                deepest = Math.max(deepest, depth(called.group(1), bodies, open));
            } else {
                deepest = Math.max(deepest, called.group(1).matches("if|for|while|switch") ? 0 : 1);
            }
        }
        open.remove(name);
        return 1 + deepest;
    }

    public static void main(String[] args) throws IOException {
        String source = bare(Files.readString(Path.of("src/main/java/VaguePort.java")));
        face();
        words(source);
        Map<String, List<String>> bodies = bodies(source);
        must(bodies.size() > 80, "only " + bodies.size() + " methods were found");
        int deepest = 0;
        for (String name : bodies.keySet()) {
            int depth = depth(name, bodies, new ArrayList<>());
            must(depth <= 8, name + " goes " + depth + " deep");
            deepest = Math.max(deepest, depth);
        }
        System.out.println(bodies.size() + " methods, " + deepest + " deep, " + wrong + " wrong");
        if (wrong != 0) {
            System.exit(1);
        }
    }
}
