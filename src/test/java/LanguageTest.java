import java.lang.reflect.Constructor;
import java.lang.reflect.Field;
import java.lang.reflect.Method;
import java.lang.reflect.Modifier;
import java.nio.file.Files;
import java.nio.file.Path;
import java.util.ArrayList;
import java.util.HashSet;
import java.util.List;
import java.util.Map;
import java.util.Set;
import java.util.TreeMap;
import java.util.TreeSet;
import java.util.regex.Matcher;
import java.util.regex.Pattern;

/** The face is the document's, and the source keeps to what LANGUAGE.md leaves (as far as a text shows it). */
public final class LanguageTest {
    private static final String SOURCE = "src/main/java/ExchequerCloth.java";
    private static final String DOCUMENT = "../shared/DOC.md";
    private static final Pattern METHOD = Pattern.compile(
        "^ +(?:public|private|protected)? ?(?:static )?[\\w\\[\\]]+ (\\w+)\\(([^)]*)\\) \\{$");

    private final Check check = new Check();
    private final String source = Files.readString(Path.of(SOURCE));
    private final String code = source.replaceAll("(?s)/\\*.*?\\*/", "").replaceAll("//[^\n]*", "")
        .replaceAll("\"[^\"\n]*\"", "\"\"").replaceAll("'[^'\n]+'", "' '");

    private LanguageTest() throws Exception {
    }

    public static void main(String[] args) throws Exception {
        LanguageTest test = new LanguageTest();
        test.face();
        test.membersArePrivate();
        test.names();
        test.words();
        test.methods();
        test.calls();
        test.madeInConstructorsAlone();
        test.nothingHandedOutWhileMade();
        test.check.finish("LanguageTest");
    }

    /** The document's face as it stands in its code block, beside the class's own. */
    private void face() throws Exception {
        String block = Files.readString(Path.of(DOCUMENT)).split("```java\n")[1].split("```")[0];
        Set<String> want = new TreeSet<>();
        Matcher m = Pattern.compile("public (int|long) (\\w+)\\(([^)]*)\\);").matcher(block);
        while (m.find()) {
            want.add(m.group(1) + " " + m.group(2) + "(" + m.group(3).replaceAll(" \\w+(,|$)", "$1") + ")");
        }
        Set<String> got = new TreeSet<>();
        for (Method method : ExchequerCloth.class.getDeclaredMethods()) {
            if (Modifier.isPublic(method.getModifiers())) {
                List<String> types = new ArrayList<>();
                for (Class<?> type : method.getParameterTypes()) {
                    types.add(type.getName());
                }
                got.add(method.getReturnType() + " " + method.getName() + "(" + String.join(", ", types) + ")");
            }
        }
        check.due("methods of the document", want.size(), 53);
        check.holds("the face: " + got, got.equals(want));
        int kind = ExchequerCloth.class.getModifiers();
        check.holds("public and final", Modifier.isPublic(kind) && Modifier.isFinal(kind));
        Constructor<?>[] constructors = ExchequerCloth.class.getDeclaredConstructors();
        check.due("constructors", constructors.length, 1);
        check.due("its parameters", constructors[0].getParameterCount(), 0);
        check.holds("is public", Modifier.isPublic(constructors[0].getModifiers()));
    }

    private void membersArePrivate() {
        for (Method m : ExchequerCloth.class.getDeclaredMethods()) {
            int kind = m.getModifiers();
            check.holds(m + " is of the face or private", Modifier.isPublic(kind) || Modifier.isPrivate(kind));
        }
        for (Field f : ExchequerCloth.class.getDeclaredFields()) {
            boolean face = f.getName().equals("NONE");
            check.holds(f + " is of the face or private", face == Modifier.isPublic(f.getModifiers())
                && face != Modifier.isPrivate(f.getModifiers()));
        }
        Class<?>[] inside = ExchequerCloth.class.getDeclaredClasses();
        check.holds("at most twelve classes", inside.length < 12);
        for (Class<?> c : inside) {
            check.holds(c + " is static", Modifier.isStatic(c.getModifiers()));
            int fields = 0;
            for (Field f : c.getDeclaredFields()) {
                boolean isStatic = Modifier.isStatic(f.getModifiers());
                fields += isStatic ? 0 : 1;
                check.holds(f + " is final if static", !isStatic || Modifier.isFinal(f.getModifiers()));
            }
            check.holds(c + " has at most twenty fields", fields <= 20);
        }
    }

    private void names() {
        Set<String> face = new HashSet<>();
        for (Method m : ExchequerCloth.class.getDeclaredMethods()) {
            if (Modifier.isPublic(m.getModifiers())) {
                face.add(m.getName());
            }
        }
        List<Class<?>> all = new ArrayList<>(List.of(ExchequerCloth.class.getDeclaredClasses()));
        all.add(ExchequerCloth.class);
        for (Class<?> c : all) {
            for (Method m : c.getDeclaredMethods()) {
                check.holds(m + " has a name of its own", Modifier.isPublic(m.getModifiers()) || !face.contains(m.getName()));
            }
        }
    }

    private void words() {
        String[] banned = {"throw", "throws", "try", "catch", "finally", "synchronized", "assert", "import", "package",
            "Object", "Exception", "Random", "Thread", "protected", "hashCode", "toString", "equals", "volatile",
            "transient", "native", "strictfp", "double", "float", "var", "yield", "sealed", "instanceof"};
        for (String word : banned) {
            check.holds("no " + word, !Pattern.compile("\\b" + word + "\\b").matcher(code).find());
        }
        check.holds("no lambda, no arrow", !code.contains("->"));
        check.holds("no method reference", !code.contains("::"));
        check.holds("no annotation", !code.contains("@"));
        check.holds("no static block", !Pattern.compile("static\\s*\\{").matcher(code).find());
        check.holds("no sign beyond 126", source.chars().allMatch(sign -> sign == '\n' || sign >= 32 && sign < 127));
        Matcher calls = Pattern.compile("\\b([A-Z]\\w+)\\.(\\w+)\\(").matcher(code);
        Set<String> library = Set.of("Math.max", "Math.min", "Math.abs", "Math.floorDiv", "Math.floorMod",
            "Integer.bitCount", "System.arraycopy", "Reader.moveWord");
        while (calls.find()) {
            String call = calls.group(1) + "." + calls.group(2);
            check.holds(call + " is of the library allowed", library.contains(call));
        }
    }

    private void methods() {
        String[] lines = source.split("\n");
        int start = -1;
        String indent = "";
        String name = "";
        for (int i = 0; i < lines.length; i++) {
            Matcher m = METHOD.matcher(lines[i]);
            if (m.matches()) {
                start = i;
                name = m.group(1);
                indent = lines[i].replaceAll("\\S.*", "");
                int parameters = m.group(2).isEmpty() ? 0 : m.group(2).split(",").length;
                check.holds(name + " takes at most seven", parameters <= 7);
            } else if (start >= 0 && lines[i].equals(indent + "}")) {
                check.holds(name + " is short", i - start < 60);
                start = -1;
            }
        }
    }

    /** Which methods each method calls; methods of one name count as one, which makes chains longer at most. */
    private Map<String, Set<String>> callsOfEach() {
        Map<String, Set<String>> all = new TreeMap<>();
        String name = "";
        for (String line : code.split("\n")) {
            Matcher m = METHOD.matcher(line);
            if (m.matches()) {
                name = m.group(1);
                all.putIfAbsent(name, new TreeSet<>());
            } else if (!name.isEmpty()) {
                Matcher called = Pattern.compile("\\b(\\w+)\\(").matcher(line);
                while (called.find()) {
                    all.get(name).add(called.group(1));
                }
            }
        }
        return all;
    }

    /** No recursion, so the longest chain of calls can be told. */
    private void calls() {
        Map<String, Set<String>> all = callsOfEach();
        check.holds("the methods are found", all.size() > 150);
        for (String name : all.keySet()) {
            List<String> chain = longestChain(all, name, new ArrayList<>());
            check.holds("at most eight deep, none twice: " + chain, chain.size() <= 8);
        }
    }

    private static List<String> longestChain(Map<String, Set<String>> all, String name, List<String> above) {
        List<String> chain = new ArrayList<>(above);
        chain.add(name);
        List<String> longest = chain;
        // what calls itself makes a chain that goes on beyond every bound
        for (String called : chain.size() > 8 ? Set.<String>of() : all.getOrDefault(name, Set.of())) {
            List<String> one = longestChain(all, called, chain);
            longest = one.size() > longest.size() ? one : longest;
        }
        return longest;
    }

    /** No part of an object goes to another class while the object is being made. */
    private void nothingHandedOutWhileMade() {
        Matcher made = Pattern.compile("new \\w+\\([^)]*\\)").matcher(code);
        while (made.find()) {
            check.holds(made.group() + " is given nothing", made.group().endsWith("()"));
        }
        check.holds("no this", !Pattern.compile("\\bthis\\b").matcher(code).find());
    }

    /** Everything is made in fields' initialisers and constructors, so that calls make nothing. */
    private void madeInConstructorsAlone() {
        for (String line : code.split("\n")) {
            if (line.contains("new ")) {
                check.holds("made in a constructor: " + line.trim(),
                    line.trim().startsWith("private ") || line.trim().equals("kept[i] = new Cloth();"));
            }
        }
    }
}
