import java.io.IOException;
import java.lang.reflect.Constructor;
import java.lang.reflect.Field;
import java.lang.reflect.Method;
import java.lang.reflect.Modifier;
import java.nio.file.Files;
import java.nio.file.Path;
import java.util.Arrays;
import java.util.Set;
import java.util.TreeSet;
import java.util.regex.Matcher;
import java.util.regex.Pattern;

/** The public face, and what of LANGUAGE.md can be read off the class and its text. */
public final class FaceTest {
    private static final Check CHECK = new Check("face");
    private static final String[] FACE = {
        "int runner(int,int)", "int shape(int,int,int,int,int)", "int set(int,int)", "int shows(int,int,int)",
        "int of(int,int)", "int moved(int)", "int order(int)", "int place(int,int)", "int stretch(int,int)",
        "int speeds(int,int,int)", "int push(int,int)", "int mended(int)", "long wrong(int,int,int,int)",
        "int known(int,int,int)", "int late(int,int)", "int tell(int,int)", "int time(int)", "int old(int)",
        "int say(int)", "int wipe()", "int fault()", "int rule()", "int record(int,int,int,int)",
        "int slit(int,int)", "int seen(int,int)", "int best(int,int)", "int told(int)"};
    private static final String[] FORBIDDEN = {
        "throw", "throws", "try", "catch", "synchronized", "assert", "import", "package", "protected", "volatile",
        "native", "var", "Object", "System", "Exception", "Thread", "Random", "\\w+Exact"};

    public static void main(String[] args) throws IOException {
        constants();
        methods();
        nested();
        String file = Files.readString(Path.of(args.length > 0 ? args[0] : "src/main/java/HairLine.java"));
        String code = withoutComments(file);
        words(file, code);
        methodLengths(code);
        CHECK.end();
    }

    private static void constants() {
        CHECK.due("UNKNOWN", HairLine.UNKNOWN, -1);
        CHECK.due("OUTSIDE", HairLine.OUTSIDE, -2);
        CHECK.due("STATE", HairLine.STATE, -3);
        CHECK.due("FULL", HairLine.FULL, -4);
        CHECK.due("NO", HairLine.NO, -5);
        CHECK.due("NONE", HairLine.NONE, -6);
        Set<String> open = new TreeSet<>();
        for (Field f : HairLine.class.getDeclaredFields()) {
            if (!Modifier.isPrivate(f.getModifiers())) {
                open.add(Modifier.toString(f.getModifiers()) + " " + f.getType() + " " + f.getName());
            }
        }
        Set<String> want = new TreeSet<>();
        for (String name : new String[] {"UNKNOWN", "OUTSIDE", "STATE", "FULL", "NO", "NONE"}) {
            want.add("public static final int " + name);
        }
        CHECK.isTrue("constants " + open, open.equals(want));
    }

    private static String written(Method m) {
        StringBuilder text = new StringBuilder(m.getReturnType() + " " + m.getName() + "(");
        for (int i = 0; i < m.getParameterTypes().length; i++) {
            text.append(i == 0 ? "" : ",").append(m.getParameterTypes()[i]);
        }
        return text.append(')').toString();
    }

    private static void methods() {
        int modifiers = HairLine.class.getModifiers();
        CHECK.isTrue("public final", Modifier.isPublic(modifiers) && Modifier.isFinal(modifiers));
        Set<String> open = new TreeSet<>();
        for (Method m : HairLine.class.getDeclaredMethods()) {
            if (!Modifier.isPrivate(m.getModifiers())) {
                open.add(written(m));
                CHECK.isTrue(m + " is public and of the object", m.getModifiers() == Modifier.PUBLIC);
            }
        }
        CHECK.isTrue("face " + open, open.equals(new TreeSet<>(Arrays.asList(FACE))));
        Constructor<?>[] made = HairLine.class.getDeclaredConstructors();
        CHECK.due("constructors", made.length, 1);
        CHECK.isTrue("public HairLine()", made[0].getParameterCount() == 0 && made[0].getModifiers() == Modifier.PUBLIC);
    }

    private static void nested() {
        Set<String> publicNames = new TreeSet<>();
        for (Method m : HairLine.class.getMethods()) {
            publicNames.add(m.getName());
        }
        Class<?>[] inside = HairLine.class.getDeclaredClasses();
        CHECK.isTrue("at most twelve classes", inside.length <= 11);
        hidesNone(HairLine.class, publicNames);
        for (Class<?> c : inside) {
            CHECK.isTrue(c + " is static", Modifier.isStatic(c.getModifiers()));
            CHECK.isTrue(c + " is not public", !Modifier.isPublic(c.getModifiers()));
            hidesNone(c, publicNames);
        }
        for (Field f : HairLine.class.getDeclaredFields()) {
            boolean fixed = !Modifier.isStatic(f.getModifiers()) || Modifier.isFinal(f.getModifiers());
            CHECK.isTrue(f + " is final, if static", fixed);
        }
    }

    private static void hidesNone(Class<?> c, Set<String> publicNames) {
        for (Method m : c.getDeclaredMethods()) {
            boolean face = Modifier.isPublic(m.getModifiers());
            CHECK.isTrue(m + " bears a name of its own", face || !publicNames.contains(m.getName()));
            CHECK.isTrue(m + " takes at most seven", m.getParameterCount() <= 7);
        }
    }

    private static String withoutComments(String file) {
        return file.replaceAll("(?s)/\\*.*?\\*/", "").replaceAll("//[^\n]*", "");
    }

    private static void words(String file, String code) {
        for (String word : FORBIDDEN) {
            Matcher m = Pattern.compile("\\b" + word + "\\b").matcher(code);
            CHECK.isTrue("no " + word, !m.find());
        }
        CHECK.isTrue("no lambda", !code.contains("->"));
        CHECK.isTrue("no method reference", !code.contains("::"));
        CHECK.isTrue("no texts", !code.contains("\""));
        CHECK.isTrue("signs 1 to 127", file.chars().allMatch(c -> c > 0 && c < 128));
    }

    /** A method's head stands at one or two indents and its last brace at the same. */
    private static void methodLengths(String code) {
        String[] lines = code.split("\n");
        int found = 0;
        for (int i = 0; i < lines.length; i++) {
            Matcher head = Pattern.compile("^( {4}| {8})\\w.*\\) \\{$").matcher(lines[i]);
            if (head.find() && !lines[i].contains(" for ") && !lines[i].trim().matches("(for|if|while|switch) .*")) {
                int end = i;
                while (end < lines.length && !lines[end].equals(head.group(1) + "}")) {
                    end++;
                }
                found++;
                CHECK.isTrue("short: " + lines[i].trim(), end < lines.length && end - i < 60);
            }
        }
        CHECK.isTrue("methods were found", found > FACE.length);
    }
}
