import java.io.IOException;
import java.lang.reflect.Constructor;
import java.lang.reflect.Field;
import java.lang.reflect.Method;
import java.lang.reflect.Modifier;
import java.nio.charset.StandardCharsets;
import java.nio.file.Files;
import java.nio.file.Path;
import java.util.ArrayList;
import java.util.HashSet;
import java.util.List;
import java.util.Set;
import java.util.TreeSet;
import java.util.regex.Matcher;
import java.util.regex.Pattern;

/** The face of the document, and what of LANGUAGE.md a look at the source can tell. */
public final class LanguageTest {
    private static final Due DUE = new Due("LanguageTest");

    private static String read(String file) throws IOException {
        return Files.readString(Path.of(file), StandardCharsets.ISO_8859_1);
    }

    /** Methods as the document writes them, without the names of parameters. */
    private static Set<String> faceOfDocument() throws IOException {
        Set<String> face = new TreeSet<>();
        Matcher m = Pattern.compile("(?m)^    public int (\\w+)\\(([^)]*)\\);").matcher(read("../shared/DOC.md"));
        while (m.find()) {
            face.add(m.group(1) + "(" + m.group(2).replaceAll(" \\w+(,|$)", "$1") + ")");
        }
        return face;
    }

    private static Set<String> faceOfClass() {
        Set<String> face = new TreeSet<>();
        for (Method m : FleetDelegates.class.getDeclaredMethods()) {
            if (!Modifier.isPrivate(m.getModifiers())) {
                List<String> types = new ArrayList<>();
                for (Class<?> type : m.getParameterTypes()) {
                    types.add(type.getName());
                }
                face.add(m.getName() + "(" + String.join(", ", types) + ")");
            }
        }
        return face;
    }

    private static void face() throws IOException {
        Set<String> document = faceOfDocument();
        DUE.due("methods of the document", document.size(), 34);
        DUE.due("methods are those of the document", faceOfClass().equals(document) ? 1 : 0, 1);
        Constructor<?>[] made = FleetDelegates.class.getDeclaredConstructors();
        DUE.due("one public constructor", made.length == 1 && Modifier.isPublic(made[0].getModifiers()) ? 1 : 0, 1);
        int constants = 0;
        for (Field f : FleetDelegates.class.getDeclaredFields()) {
            constants += Modifier.isPrivate(f.getModifiers()) ? 0 : 1;
        }
        DUE.due("five constants", constants, 5);
        DUE.due("their numbers", FleetDelegates.NONE == -1 && FleetDelegates.UNKNOWN == -2 && FleetDelegates.OUTSIDE == -3
            && FleetDelegates.NOT == -4 && FleetDelegates.FULL == -5 ? 1 : 0, 1);
    }

    private static void members() {
        Set<String> names = new HashSet<>();
        for (String method : faceOfClass()) {
            names.add(method.substring(0, method.indexOf('(')));
        }
        List<Class<?>> classes = new ArrayList<>(List.of(FleetDelegates.class.getDeclaredClasses()));
        DUE.due("some twelve classes at most", classes.size() <= 12 ? 1 : 0, 1);
        classes.add(FleetDelegates.class);
        for (Class<?> c : classes) {
            String name = c.getSimpleName();
            boolean inside = c != FleetDelegates.class;
            DUE.due(name + " is static", !inside || Modifier.isStatic(c.getModifiers()) ? 1 : 0, 1);
            int fields = 0;
            for (Field f : c.getDeclaredFields()) {
                boolean isStatic = Modifier.isStatic(f.getModifiers());
                fields += isStatic ? 0 : 1;
                DUE.due(name + "." + f.getName() + " is final, if static", !isStatic || Modifier.isFinal(f.getModifiers()) ? 1 : 0, 1);
            }
            DUE.due(name + " has some twenty fields at most", fields <= 20 ? 1 : 0, 1);
            for (Method m : c.getDeclaredMethods()) {
                boolean isPublic = Modifier.isPublic(m.getModifiers());
                DUE.due(name + "." + m.getName() + " bears no public name", !isPublic && names.contains(m.getName()) ? 1 : 0, 0);
                DUE.due(name + "." + m.getName() + " has seven parameters at most", m.getParameterCount() <= 7 ? 1 : 0, 1);
            }
        }
    }

    private static void source() throws IOException {
        String source = read("src/main/java/FleetDelegates.java");
        for (int i = 0; i < source.length(); i++) {
            if (source.charAt(i) > 126) {
                DUE.due("a sign of ASCII at " + i, source.charAt(i), 0);
            }
        }
        String code = source.replaceAll("(?s)/\\*.*?\\*/", "").replaceAll("//[^\n]*", "");
        String[] none = {"\\bthrow\\b", "\\bthrows\\b", "\\btry\\b", "\\bcatch\\b", "\\bsynchronized\\b", "\\bassert\\b",
            "\\bimport\\b", "\\bpackage\\b", "->", "::", "static \\{", "\\binstanceof\\b", "\\bSystem\\.(?!arraycopy)",
            "Exact\\(", "\\bhashCode\\b", "\\btoString\\b", "\\bequals\\b", "\\bprotected\\b", "\\bdouble\\b", "\\bfloat\\b"};
        for (String word : none) {
            DUE.due("no " + word, Pattern.compile(word).matcher(code).find() ? 1 : 0, 0);
        }
        int begun = 0;
        String[] lines = source.split("\n");
        for (int i = 0; i < lines.length; i++) {
            if (lines[i].matches("( {4}| {8})\\w.*\\{")) {
                begun = i;
            }
            if (lines[i].matches("( {4}| {8})\\}") && lines[i].indexOf('}') == lines[begun].length() - lines[begun].strip().length()) {
                DUE.due("the method of line " + (begun + 1) + " has sixty lines at most", i - begun <= 60 ? 1 : 0, 1);
            }
        }
    }

    public static void main(String[] args) throws IOException {
        face();
        members();
        source();
        DUE.end();
    }
}
