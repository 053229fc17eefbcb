import java.lang.reflect.Constructor;
import java.lang.reflect.Field;
import java.lang.reflect.Member;
import java.lang.reflect.Method;
import java.lang.reflect.Modifier;
import java.nio.file.Files;
import java.nio.file.Path;
import java.util.List;
import java.util.Set;
import java.util.TreeSet;
import java.util.regex.Matcher;
import java.util.regex.Pattern;

/** The face is the document's and no more, and the source keeps to what can be seen of LANGUAGE.md. */
public final class FaceTest {
    public static void main(String[] args) throws Exception {
        Path shared = Path.of(args.length > 0 ? args[0] : "../shared");
        face(Files.readString(shared.resolve("DOC.md")));
        hidden();
        source(Files.readString(Path.of("src/main/java/BandPark.java")));
        Check.end();
    }

    private static void face(String document) {
        int from = document.indexOf("public final class BandPark {");
        String block = document.substring(from, document.indexOf("```", from));
        Set<String> want = new TreeSet<>();
        Matcher line = Pattern.compile("public (\\w+) (\\w+)\\((.*)\\);").matcher(block);
        while (line.find()) {
            want.add(line.group(1) + " " + line.group(2) + "(" + line.group(3).replaceAll("(\\w+) \\w+", "$1") + ")");
        }
        Set<String> got = new TreeSet<>();
        for (Method m : BandPark.class.getDeclaredMethods()) {
            if (!Modifier.isPrivate(m.getModifiers())) {
                StringBuilder s = new StringBuilder(m.getReturnType() + " " + m.getName() + "(");
                for (Class<?> type : m.getParameterTypes()) {
                    s.append(s.charAt(s.length() - 1) == '(' ? "" : ", ").append(type);
                }
                got.add(s.append(")").toString());
                Check.yes("public: " + m, Modifier.isPublic(m.getModifiers()) && !Modifier.isStatic(m.getModifiers()));
            }
        }
        Check.yes("many methods", want.size() == 59);
        Set<String> more = new TreeSet<>(got);
        more.removeAll(want);
        want.removeAll(got);
        Check.yes("missing: " + want, want.isEmpty());
        Check.yes("more: " + more, more.isEmpty());
        Check.same("NONE", BandPark.NONE, -1);
        Check.yes("final", Modifier.isFinal(BandPark.class.getModifiers()));
    }

    private static void hidden() {
        Set<String> names = new TreeSet<>();
        for (Method m : BandPark.class.getDeclaredMethods()) {
            if (Modifier.isPublic(m.getModifiers())) {
                names.add(m.getName());
            }
        }
        for (Method m : BandPark.class.getDeclaredMethods()) {
            Check.yes("a private name: " + m, Modifier.isPublic(m.getModifiers()) || !names.contains(m.getName()));
        }
        for (Field f : BandPark.class.getDeclaredFields()) {
            Check.yes("field: " + f, isPrivate(f) || f.getName().equals("NONE"));
        }
        for (Constructor<?> c : BandPark.class.getDeclaredConstructors()) {
            Check.yes("constructor: " + c, Modifier.isPublic(c.getModifiers()) && c.getParameterCount() == 0);
        }
        Class<?>[] inside = BandPark.class.getDeclaredClasses();
        Check.yes("at most twelve classes", inside.length < 12);
        for (Class<?> c : inside) {
            Check.yes("static: " + c, Modifier.isStatic(c.getModifiers()) && !Modifier.isPublic(c.getModifiers()));
            int fields = 0;
            for (Field f : c.getDeclaredFields()) {
                fields += Modifier.isStatic(f.getModifiers()) ? 0 : 1;
                Check.yes("final: " + f, !Modifier.isStatic(f.getModifiers()) || Modifier.isFinal(f.getModifiers()));
            }
            Check.yes("twenty fields: " + c, fields <= 20);
            for (Method m : c.getDeclaredMethods()) {
                Check.yes("seven parameters: " + m, m.getParameterCount() <= 7);
                Check.yes("a name of the face: " + m, !names.contains(m.getName()));
            }
        }
    }

    private static boolean isPrivate(Member m) {
        return Modifier.isPrivate(m.getModifiers());
    }

    private static void source(String text) {
        String code = text.replaceAll("(?s)/\\*.*?\\*/", "").replaceAll("//[^\n]*", "").replaceAll("\"[^\"\n]*\"", "\"\"");
        for (String word : List.of("throw", "try", "catch", "synchronized", "assert", "import", "package", "double", "float",
            "protected", "finally", "hashCode", "toString", "equals")) {
            Check.yes("no " + word, !Pattern.compile("\\b" + word + "\\b").matcher(code).find());
        }
        Check.yes("no lambda", !code.contains("->") && !code.contains("::"));
        Check.yes("no texts joined", !code.contains("\" +") && !code.contains("+ \""));
        Check.yes("ASCII", text.chars().allMatch(c -> c == 10 || c >= 32 && c < 127));
        methodsAreShort(code);
    }

    private static void methodsAreShort(String code) {
        String[] lines = code.split("\n");
        int begun = -1;
        for (int i = 0; i < lines.length; i++) {
            boolean begins = lines[i].matches(" {4,8}(public|private|static|final|[a-z]+)[\\w\\[\\] ]*\\(.*\\) \\{");
            begun = begins ? i : begun;
            if (begun >= 0 && lines[i].matches(" {4,8}\\}")) {
                Check.yes("a long method at line " + begun, i - begun <= 60);
                begun = -1;
            }
        }
    }
}
