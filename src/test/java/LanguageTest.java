import java.io.IOException;
import java.lang.reflect.Constructor;
import java.lang.reflect.Field;
import java.lang.reflect.Method;
import java.lang.reflect.Modifier;
import java.nio.file.Files;
import java.nio.file.Path;
import java.util.ArrayList;
import java.util.Arrays;
import java.util.List;
import java.util.Set;
import java.util.TreeSet;
import java.util.regex.Matcher;
import java.util.regex.Pattern;

/** The rules of ../shared/LANGUAGE.md that can be seen by reflection or in the source's words. */
public final class LanguageTest {
    private static final Path SOURCE = Path.of("src/main/java/RedBalloons.java");
    private static final String FACE = "again(int)int balloon(int,int)int began(int)int best(int)int city()int "
            + "comes(int)int count(int)int fails(int,int,int,int,boolean)int fault()int find(int,int)int free(int)int "
            + "hedge(int,int)int hour()int judge(int,long)int keep(int)int later(int,int,int)int let(int)int lose()int "
            + "most(int)int rests(int,int,int)int right(int,int)int seed(long)long share(int,boolean)int undo()int "
            + "wipe()int write(int)int years(int)int";
    private static final String CONSTANTS = "FULL NONE OUTSIDE STATE UNKNOWN";
    private static final Set<String> LIBRARY = Set.of("Math.abs", "Math.floorMod", "Integer.bitCount");
    private static final int CLASSES_AT_MOST = 12;
    private static final int FIELDS_AT_MOST = 20;
    private static final int PARAMETERS_AT_MOST = 7;
    private static final int LINES_AT_MOST = 60;

    private static int wrong = 0;

    private static void holds(String rule, boolean so) {
        if (!so) {
            wrong++;
            System.out.println("not so: " + rule);
        }
    }

    private static void face() {
        Class<?> face = RedBalloons.class;
        holds("the class is public and final", Modifier.isPublic(face.getModifiers()) && Modifier.isFinal(face.getModifiers()));
        Set<String> methods = new TreeSet<>();
        for (Method m : face.getDeclaredMethods()) {
            if (!Modifier.isPrivate(m.getModifiers())) {
                String of = Arrays.toString(m.getParameterTypes()).replaceAll("[\\[\\] ]", "");
                methods.add(m.getName() + "(" + of + ")" + m.getReturnType());
                holds(m + " is public and no static", Modifier.isPublic(m.getModifiers()) && !Modifier.isStatic(m.getModifiers()));
            }
        }
        holds("methods of the face: " + String.join(" ", methods), String.join(" ", methods).equals(FACE));
        Set<String> constants = new TreeSet<>();
        for (Field f : face.getDeclaredFields()) {
            if (!Modifier.isPrivate(f.getModifiers())) {
                constants.add(f.getName());
                holds(f + " is a public constant", f.toString().startsWith("public static final int "));
            }
        }
        holds("constants of the face: " + constants, String.join(" ", constants).equals(CONSTANTS));
        Constructor<?>[] made = face.getDeclaredConstructors();
        holds("one constructor, of nothing", made.length == 1 && Modifier.isPublic(made[0].getModifiers()) && made[0].getParameterCount() == 0);
        holds("the values", RedBalloons.UNKNOWN == -1 && RedBalloons.OUTSIDE == -2 && RedBalloons.STATE == -3
                && RedBalloons.FULL == -4 && RedBalloons.NONE == -9);
    }

    private static void classes() {
        List<Class<?>> all = new ArrayList<>(List.of(RedBalloons.class.getDeclaredClasses()));
        all.add(RedBalloons.class);
        holds("so many classes: " + all.size(), all.size() <= CLASSES_AT_MOST);
        Set<String> names = new TreeSet<>();
        for (Method m : RedBalloons.class.getMethods()) {
            names.add(m.getName());
        }
        for (Class<?> c : all) {
            holds(c + " is static or the face", c == RedBalloons.class || Modifier.isStatic(c.getModifiers()));
            int fields = 0;
            for (Field f : c.getDeclaredFields()) {
                boolean isStatic = Modifier.isStatic(f.getModifiers());
                fields += isStatic ? 0 : 1;
                holds(f + " is final if it is static", !isStatic || Modifier.isFinal(f.getModifiers()));
            }
            holds("so many fields in " + c + ": " + fields, fields <= FIELDS_AT_MOST);
            for (Method m : c.getDeclaredMethods()) {
                holds("so many parameters of " + m, m.getParameterCount() <= PARAMETERS_AT_MOST);
                holds("the name of " + m, c == RedBalloons.class && Modifier.isPublic(m.getModifiers()) || !names.contains(m.getName()));
            }
        }
    }

    private static String withoutRemarks(String source) {
        return source.replaceAll("(?s)/\\*.*?\\*/", "").replaceAll("//[^\n]*", "");
    }

    private static void words(String code) {
        String[] none = {"\\bthrow\\b", "\\bthrows\\b", "\\btry\\b", "\\bcatch\\b", "\\bsynchronized\\b", "\\bassert\\b",
            "->", "::", "\\bpackage\\b", "\\w+Exact\\b", "\\bThread\\b", "\\bRandom\\b", "\\bstatic\\s*\\{", "\\bprotected\\b",
            "\\bObject\\b", "\\bSystem\\.(?!arraycopy\\b)", "\\bimport (?!java\\.util\\.(ArrayList|List|Arrays|Iterator);)"};
        for (String word : none) {
            holds("no " + word, !Pattern.compile(word).matcher(code).find());
        }
    }

    private static void library(String code) {
        Matcher named = Pattern.compile("\\b(Math|Integer|Long|Arrays|System|String|List)\\.(\\w+)").matcher(code);
        while (named.find()) {
            holds("in the library that is left: " + named.group(), LIBRARY.contains(named.group()));
        }
        holds("no texts", !code.contains("\""));
        Matcher fixed = Pattern.compile("\\bstatic (?!final class\\b)([^({;=]*)([({;=])").matcher(code);
        while (fixed.find()) {
            boolean method = fixed.group(2).equals("(");
            holds("a constant: " + fixed.group(), method || fixed.group(1).matches("final (int|long|boolean|char|int\\[]|long\\[]) \\w+ "));
        }
        holds("loops with a counter alone", !Pattern.compile("\\b(while|do)\\b").matcher(code).find());
    }

    private static void lengths(String source) {
        String[] lines = source.split("\n");
        int began = -1;
        String indent = "";
        for (int i = 0; i < lines.length; i++) {
            Matcher head = Pattern.compile("^( {4}| {8})(?! )[^=;/*]*\\(.*\\) \\{$").matcher(lines[i]);
            if (head.find()) {
                began = i;
                indent = head.group(1);
            } else if (began >= 0 && lines[i].equals(indent + "}")) {
                holds("so many lines: " + lines[began], i - began + 1 <= LINES_AT_MOST);
                began = -1;
            }
        }
    }

    private static void objectsInCalls(String code) {
        Matcher made = Pattern.compile("^ *(.*\\bnew \\w+.*)$", Pattern.MULTILINE).matcher(code);
        while (made.find()) {
            String line = made.group(1);
            boolean ahead = line.contains("final ") || line.matches("(slots\\[slot]|balloons\\[i]|ahead\\[i]) = new \\w+\\(\\w*\\);");
            holds("made with the object alone: " + line, ahead);
        }
    }

    public static void main(String[] args) throws IOException {
        face();
        classes();
        String source = Files.readString(SOURCE);
        String code = withoutRemarks(source);
        words(code);
        library(code);
        lengths(source);
        objectsInCalls(code);
        holds("signs 1 to 127", source.chars().allMatch(c -> c > 0 && c < 128));
        System.out.println(wrong == 0 ? "the class keeps to the language" : wrong + " rules are not kept");
        if (wrong != 0) {
            System.exit(1);
        }
    }
}
