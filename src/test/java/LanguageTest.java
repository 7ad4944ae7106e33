import java.lang.reflect.Constructor;
import java.lang.reflect.Field;
import java.lang.reflect.Method;
import java.lang.reflect.Modifier;
import java.nio.file.Files;
import java.nio.file.Path;
import java.util.ArrayList;
import java.util.Arrays;
import java.util.List;
import java.util.Set;
import java.util.TreeSet;
import java.util.regex.Matcher;
import java.util.regex.Pattern;
import java.util.stream.Collectors;

/** The rules of ../shared/LANGUAGE.md that can be seen from outside or from the words of the file. */
public final class LanguageTest {
    private static final String FACE = "int type(int,int); int wipe(int); int undo(int); int fault(int); int land(int); int fall(int); "
        + "int plough(int,int); int bus(int); int wind(int); int event(int,int,int); int back(); int read(int); int deep(int,int); "
        + "int at(int,int,int); int rides(int,int); int snow(int,int); int over(int,int); int cleared(int,int); int deepest(int); "
        + "int shut(); int best(); int begin(int,int); int hedge(int); int start(int,int); int spare(int); int seen(int,int,int); "
        + "int forget(); int never(); int strengths(int); int lie(int); int ask(int); long chance(int,int,int); int winters(int,int,int); "
        + "int sheet(int,int,int); int lose(int); int lay(int,int,int,int); int get(int,int,int); int copy(int,int,int,int,int); "
        + "int write(int,int); int count(int); long digest()";
    private static int wrong = 0;

    private static void must(boolean so, String rule) {
        if (!so) {
            wrong++;
            System.out.println("broken: " + rule);
        }
    }

    public static void main(String[] args) throws Exception {
        face();
        classes();
        words(Files.readString(Path.of("src/main/java/SnowRoad.java")));
        System.out.println(wrong == 0 ? "the language is kept" : wrong + " rules are broken");
        if (wrong != 0) {
            System.exit(1);
        }
    }

    private static void face() {
        int modifiers = SnowRoad.class.getModifiers();
        must(Modifier.isPublic(modifiers) && Modifier.isFinal(modifiers), "1: the class is public and final");
        Set<String> due = new TreeSet<>(Arrays.asList(FACE.split("; ")));
        Set<String> open = new TreeSet<>();
        for (Method m : SnowRoad.class.getDeclaredMethods()) {
            if (!Modifier.isPrivate(m.getModifiers())) {
                must(Modifier.isPublic(m.getModifiers()) && !Modifier.isStatic(m.getModifiers()), "1: " + m);
                String types = Arrays.stream(m.getParameterTypes()).map(Class::getName).collect(Collectors.joining(","));
                open.add(m.getReturnType().getName() + " " + m.getName() + "(" + types + ")");
            }
        }
        must(open.equals(due), "1: the face is " + open);
        List<String> constants = new ArrayList<>();
        for (Field f : SnowRoad.class.getDeclaredFields()) {
            if (!Modifier.isPrivate(f.getModifiers())) {
                constants.add(f.getName());
            }
        }
        must(constants.equals(List.of("NONE", "BAD", "NOT", "FULL")), "1: the open fields are " + constants);
        Constructor<?>[] makers = SnowRoad.class.getDeclaredConstructors();
        must(makers.length == 1 && Modifier.isPublic(makers[0].getModifiers()) && makers[0].getParameterCount() == 0, "1: the constructor");
    }

    private static void classes() {
        Set<String> open = Arrays.stream(FACE.split("; ")).map(s -> s.replaceAll(".* |\\(.*", "")).collect(Collectors.toSet());
        List<Class<?>> all = new ArrayList<>(List.of(SnowRoad.class.getDeclaredClasses()));
        for (Class<?> c : all) {
            must(Modifier.isStatic(c.getModifiers()), "2: " + c + " is static");
            must(!Modifier.isPublic(c.getModifiers()) && !Modifier.isProtected(c.getModifiers()), "1: " + c + " is not open");
        }
        all.add(SnowRoad.class);
        must(all.size() <= 12, "11: twelve classes");
        for (Class<?> c : all) {
            int fields = 0;
            for (Field f : c.getDeclaredFields()) {
                boolean shared = Modifier.isStatic(f.getModifiers());
                must(!shared || Modifier.isFinal(f.getModifiers()), "5: " + f + " is final");
                fields += shared ? 0 : 1;
            }
            must(fields <= 20, "11: twenty fields in " + c);
            for (Method m : c.getDeclaredMethods()) {
                must(m.getParameterCount() <= 7, "11: seven parameters of " + m);
                boolean ofTheFace = c == SnowRoad.class && Modifier.isPublic(m.getModifiers());
                must(ofTheFace || !open.contains(m.getName()), "1: " + m + " bears the name of a public one");
            }
        }
    }

    private static void words(String file) {
        String code = file.replaceAll("(?s)/\\*.*?\\*/", "").replaceAll("//.*", "");
        for (String word : List.of("throw", "throws", "try", "catch", "synchronized", "assert", "double", "float", "package", "equals", "hashCode", "toString",
            "Exact", "Exception", "Thread", "Random", "Object", "native", "volatile")) {
            must(!Pattern.compile("\\b\\w*" + word + "\\b").matcher(code).find(), "6: there is no " + word);
        }
        must(!code.contains("->") && !code.contains("::"), "2: no lambda, no method reference");
        must(code.chars().allMatch(c -> c < 128), "4: plain signs");
        Matcher imports = Pattern.compile("import [^;]*;").matcher(code);
        while (imports.find()) {
            must(imports.group().equals("import java.util.Arrays;"), "4: " + imports.group());
        }
        Matcher calls = Pattern.compile("\\b(System|Arrays|Math|Integer|Long)\\.(\\w+)").matcher(code);
        Set<String> library = Set.of("System.arraycopy", "Arrays.fill", "Math.min", "Math.max", "Integer.bitCount", "Integer.numberOfTrailingZeros");
        while (calls.find()) {
            must(library.contains(calls.group()), "4: " + calls.group());
        }
        shortMethods(code);
    }

    private static void shortMethods(String code) {
        String[] lines = code.split("\n");
        int start = -1;
        for (int i = 0; i < lines.length; i++) {
            if (lines[i].matches("( {4}| {8})(public|private|static|final|int|long|boolean|void|[A-Z]\\w*)\\b.*\\) \\{")) {
                start = i;
            } else if (start >= 0 && lines[i].matches(" {4}\\}| {8}\\}")) {
                must(i - start < 60, "11: the method of line " + start + " is short");
                start = -1;
            }
        }
    }
}
