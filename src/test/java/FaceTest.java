import java.io.IOException;
import java.lang.reflect.Constructor;
import java.lang.reflect.Field;
import java.lang.reflect.Method;
import java.lang.reflect.Modifier;
import java.nio.file.Files;
import java.nio.file.Path;
import java.util.HashSet;
import java.util.Set;
import java.util.TreeSet;
import java.util.regex.Matcher;
import java.util.regex.Pattern;

/** The public face as the document tells it, and those rules of ../shared/LANGUAGE.md that the text of the program shows. */
public final class FaceTest {
    private static final Check check = new Check("FaceTest");
    private static final String[] METHODS = {
        "set(int,int)", "seed(int)", "keep(int)", "refresh(int)", "burn(int)", "sleep(int)", "lie(int,int,int,int)", "merge(int)",
        "steal(int,int,int)", "pass(int)", "of(int,int,int)", "ofSecret(int,int)", "old(int,int,int)", "count(int)",
        "otherwise(int,int,int)", "passing(int,int,int)", "passes(int,int,int)", "needed(int)", "atRisk(int)", "ifMerged(int)",
        "put(long)", "wipe()", "fault()", "carryOut()", "undo()", "save(int)", "restore(int)",
    };

    public static void main(String[] args) throws IOException {
        constants();
        methods();
        source(Files.readString(Path.of(args[0])));
        check.end();
    }

    private static void constants() {
        int[] values = {
            SplitSecrets.NO_SUCH, SplitSecrets.BAD_VALUE, SplitSecrets.BAD_TEXT, SplitSecrets.TOO_MANY, SplitSecrets.NOT_POSSIBLE,
            SplitSecrets.NONE,
        };
        for (int i = 0; i < values.length; i++) {
            check.due("error code " + i, values[i], -1 - i);
        }
        check.due("OPEN", SplitSecrets.OPEN, 0);
        check.due("EACH", SplitSecrets.EACH, 1);
        check.due("OLD", SplitSecrets.OLD, 2);
        int open = 0;
        for (Field field : SplitSecrets.class.getDeclaredFields()) {
            open += Modifier.isPrivate(field.getModifiers()) ? 0 : 1;
            check.holds("static fields are final: " + field, !Modifier.isStatic(field.getModifiers()) || Modifier.isFinal(field.getModifiers()));
        }
        check.due("constants of the face", open, 9);
    }

    private static void methods() {
        check.holds("the class is public and final", Modifier.isPublic(SplitSecrets.class.getModifiers()) && Modifier.isFinal(SplitSecrets.class.getModifiers()));
        Constructor<?>[] constructors = SplitSecrets.class.getDeclaredConstructors();
        check.due("constructors", constructors.length, 1);
        check.holds("it is public, without parameters", Modifier.isPublic(constructors[0].getModifiers()) && constructors[0].getParameterCount() == 0);
        Set<String> open = new TreeSet<>();
        Set<String> names = new HashSet<>();
        for (Method method : SplitSecrets.class.getDeclaredMethods()) {
            if (!Modifier.isPrivate(method.getModifiers())) {
                String all = method.toString();
                open.add(all.substring(all.indexOf("SplitSecrets.") + 13));
                names.add(method.getName());
                check.holds(all + " answers an int", method.getReturnType() == int.class && Modifier.isPublic(method.getModifiers()));
            }
        }
        check.holds("the methods of the face: " + open, open.equals(new TreeSet<>(Set.of(METHODS))));
        noInnerMethodBearsAPublicName(SplitSecrets.class, names);
    }

    private static void noInnerMethodBearsAPublicName(Class<?> outer, Set<String> names) {
        check.holds("some twelve classes", outer.getDeclaredClasses().length <= 11);
        for (Class<?> inner : outer.getDeclaredClasses()) {
            check.holds(inner + " is static and not public", Modifier.isStatic(inner.getModifiers()) && !Modifier.isPublic(inner.getModifiers()));
            for (Method method : inner.getDeclaredMethods()) {
                check.holds(method + " has a name of its own", !names.contains(method.getName()));
            }
        }
    }

    private static void source(String text) {
        String code = text.replaceAll("(?s)/\\*.*?\\*/", "").replaceAll("//[^\n]*", "");
        String[] banned = {
            "import", "package", "throw", "throws", "try", "catch", "synchronized", "assert", "instanceof", "System", "Thread",
            "Random", "record", "toString", "hashCode", "equals", "transient", "volatile", "native",
        };
        for (String word : banned) {
            Matcher matcher = Pattern.compile("\\b" + word + "\\b").matcher(code);
            check.holds("no " + word, !matcher.find());
        }
        check.holds("no lambda, no method reference", !code.contains("->") && !code.contains("::"));
        check.holds("no text", !code.contains("\""));
        newOnlyWhereObjectsAreMade(code);
    }

    // Calls share one room for what they make, so rows are made with their objects and used again.
    private static void newOnlyWhereObjectsAreMade(String code) {
        Pattern allowed = Pattern.compile(
            "private final \\S+ \\w+ = new .*;|(now|history|slots|slots\\[slot\\]|saved|pad|reader|secrets\\[i\\]|rows\\[row\\]) = new .*;");
        for (String line : code.split("\n")) {
            if (line.contains("new ")) {
                check.holds("made with its object: " + line.trim(), allowed.matcher(line.trim()).matches());
            }
        }
    }
}
