import java.lang.reflect.Constructor;
import java.lang.reflect.Field;
import java.lang.reflect.Method;
import java.lang.reflect.Modifier;
import java.nio.file.Files;
import java.nio.file.Path;
import java.util.ArrayList;
import java.util.HashSet;
import java.util.List;
import java.util.Set;
import java.util.TreeSet;
import java.util.regex.Matcher;
import java.util.regex.Pattern;

/** The public face is the document's and no more, and the source has no word that LANGUAGE.md rules out. */
public final class FaceTest {
    private static final String[] METHODS = {
        "surface 2", "told 2", "layer 2", "as 2", "turns 2", "damp 2", "rule 2", "settles 2", "sweeps 1", "lifts 2",
        "deal 1", "seed 1", "days 1", "hall 1", "lies 1", "proof 2", "common 3", "hiding 2", "alike 1", "forged 1",
        "behind 2", "gone 2", "safe 2", "becomes 3", "kept 2", "whose 2", "fee 0", "fine 1", "feed 3", "trim 1",
        "text 0", "textTold 2", "why 1", "sheet 3", "mark 3", "pour 1", "reads 1", "copy 5", "lay 3", "ask 2",
        "item 2", "rest 2", "tell 1", "check 1", "keep 0", "back 0", "count 1",
    };
    private static final String[] CONSTANTS = {"BAD", "NO", "FULL", "NONE", "NOTHING", "KIND", "INDEX", "SIZE"};
    private static final Pattern RULED_OUT = Pattern.compile(
            "\\b(throw|throws|try|catch|synchronized|assert|double\\[|NaN|hashCode|\\w+Exact|Random|Thread|System\\.(?!arraycopy)\\w+)\\b"
            + "|->|::|new \\w+\\([^;]*\\) \\{");
    private static final Pattern METHOD = Pattern.compile("^ {4,8}(?! )(?!.*\\bclass\\b).*\\) \\{$");
    private static int wrong;

    public static void main(String[] args) throws Exception {
        face();
        namesOfPrivateMethods();
        sizes();
        source();
        System.out.println("FaceTest: " + wrong + " not as due");
        if (wrong != 0) {
            System.exit(1);
        }
    }

    private static void due(String what, Object got, Object want) {
        if (!got.equals(want)) {
            wrong++;
            System.out.println(what + ": " + got + ", due is " + want);
        }
    }

    private static void face() {
        Set<String> seen = new TreeSet<>();
        for (Method m : DustLayers.class.getDeclaredMethods()) {
            if (!Modifier.isPrivate(m.getModifiers())) {
                boolean ints = m.getReturnType() == int.class && Modifier.isPublic(m.getModifiers());
                for (Class<?> p : m.getParameterTypes()) {
                    ints &= p == int.class;
                }
                seen.add(m.getName() + " " + m.getParameterCount() + (ints ? "" : "?"));
            }
        }
        due("methods", seen, new TreeSet<>(List.of(METHODS)));
        Set<String> fields = new TreeSet<>();
        for (Field f : DustLayers.class.getDeclaredFields()) {
            if (!Modifier.isPrivate(f.getModifiers())) {
                fields.add(f.getName());
            }
        }
        due("fields", fields, new TreeSet<>(List.of(CONSTANTS)));
        Constructor<?>[] made = DustLayers.class.getDeclaredConstructors();
        due("constructors", made.length, 1);
        due("its parameters", made[0].getParameterCount(), 0);
        due("public and final", DustLayers.class.getModifiers(), Modifier.PUBLIC | Modifier.FINAL);
    }

    private static void namesOfPrivateMethods() {
        Set<String> names = new HashSet<>();
        for (String method : METHODS) {
            names.add(method.substring(0, method.indexOf(' ')));
        }
        List<Class<?>> classes = new ArrayList<>(List.of(DustLayers.class.getDeclaredClasses()));
        for (Class<?> inside : classes) {
            due("static " + inside, Modifier.isStatic(inside.getModifiers()), true);
            for (Method m : inside.getDeclaredMethods()) {
                due("name of " + m, names.contains(m.getName()), false);
            }
        }
        for (Method m : DustLayers.class.getDeclaredMethods()) {
            due("name of " + m, names.contains(m.getName()) && Modifier.isPrivate(m.getModifiers()), false);
        }
        due("at most twelve classes", classes.size() < 12, true);
    }

    /** LANGUAGE.md 5 and 11: static fields are final, some twenty others in a class, seven parameters. */
    private static void sizes() {
        List<Class<?>> classes = new ArrayList<>(List.of(DustLayers.class.getDeclaredClasses()));
        classes.add(DustLayers.class);
        for (Class<?> one : classes) {
            int fields = 0;
            for (Field f : one.getDeclaredFields()) {
                boolean fixed = Modifier.isStatic(f.getModifiers());
                fields += fixed ? 0 : 1;
                due("final " + f, !fixed || Modifier.isFinal(f.getModifiers()), true);
            }
            due("at most twenty fields of " + one, fields <= 20, true);
            for (Method m : one.getDeclaredMethods()) {
                due("at most seven parameters of " + m, m.getParameterCount() <= 7, true);
            }
        }
    }

    private static void source() throws Exception {
        List<String> lines = Files.readAllLines(Path.of("src/main/java/DustLayers.java"));
        int began = 0;
        for (int k = 0; k < lines.size(); k++) {
            if (lines.get(k).startsWith("import ")) {
                due("line " + (k + 1), lines.get(k), "import java.util.Arrays;");
            }
            if (METHOD.matcher(lines.get(k)).find()) {
                began = k;
            }
            due("line " + (k + 1) + " ends a method that is too long", lines.get(k).matches(" {4,8}}") && k - began > 60, false);
            String line = lines.get(k).replaceAll("//.*|/?\\*+ .*", "");
            Matcher found = RULED_OUT.matcher(line);
            due("line " + (k + 1), found.find() ? found.group() : "", "");
        }
    }
}
