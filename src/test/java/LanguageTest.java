import java.lang.reflect.Constructor;
import java.lang.reflect.Field;
import java.lang.reflect.Method;
import java.lang.reflect.Modifier;
import java.nio.file.Files;
import java.nio.file.Path;
import java.util.Map;
import java.util.Set;
import java.util.TreeMap;
import java.util.TreeSet;
import java.util.regex.Pattern;

/** What LANGUAGE.md forbids, as far as a look at the source or at the class's face tells it. */
public final class LanguageTest {
    private static final String FACE = "canBeOne:int,int;cave:;drift:int;enter:int;fault:;feed:int,long;fewest:int;fits:;forget:;"
            + "goBack:int;judge:;just:int,int,int,boolean,int;keep:int;line:int,int;longest:int,int;meeting:int,int,int;part:int,int;"
            + "pass:int;person:int,int;seed:int;sitOut:int;span:int,int,int,int;spend:int;sum:int,int;tear:;told:int;tryOut:int,int;";

    public static void main(String[] args) throws Exception {
        theSource(Files.readString(Path.of("src/main/java/CaveYears.java")));
        theFace();
        theSizes();
        Check.finish();
    }

    private static void theSource(String source) {
        String code = source.replaceAll("(?s)/\\*.*?\\*/", "").replaceAll("//.*", "").replaceAll("\"[^\"]*\"", "\"\"");
        String[] banned = {"throw", "throws", "try", "catch", "finally", "synchronized", "assert", "import", "package", "var", "Object",
            "System", "hashCode", "toString", "equals", "volatile", "native", "interface", "record", "Random", "Thread"};
        for (String word : banned) {
            Check.due("'" + word + "' stands in the source", Pattern.compile("\\b" + word + "\\b").matcher(code).find() ? 1 : 0, 0);
        }
        Check.due("a lambda", code.contains("->") ? 1 : 0, 0);
        Check.due("a method reference", code.contains("::") ? 1 : 0, 0);
        Check.due("a name that ends in Exact", Pattern.compile("Exact\\(").matcher(code).find() ? 1 : 0, 0);
        Check.due("joining texts by +", Pattern.compile("\"\\s*\\+|\\+\\s*\"").matcher(code).find() ? 1 : 0, 0);
        Check.due("signs 1 to 127 alone", source.chars().allMatch(c -> c >= 1 && c <= 127) ? 1 : 0, 1);
        // Objects are made in constructors and field initialisers alone, so that no call takes room.
        for (String line : code.split("\n")) {
            if (line.contains("new ")) {
                boolean atStart = line.contains("final ") || line.matches("            [A-Za-z]+ = new .*|        [A-Za-z]+ = new .*");
                Check.due("made in a call: " + line.trim(), atStart ? 1 : 0, 1);
            }
        }
    }

    /** Rule 11: some twelve classes, some twenty fields in each beside its constants, seven parameters. */
    private static void theSizes() {
        Class<?>[] inside = CaveYears.class.getDeclaredClasses();
        Check.due("classes", inside.length <= 11 ? 1 : 0, 1);
        sizesOf(CaveYears.class);
        for (Class<?> one : inside) {
            sizesOf(one);
        }
    }

    private static void sizesOf(Class<?> one) {
        int fields = 0;
        for (Field f : one.getDeclaredFields()) {
            if (!Modifier.isStatic(f.getModifiers())) {
                fields++;
                continue;
            }
            Check.due("final: " + f.getName(), Modifier.isFinal(f.getModifiers()) ? 1 : 0, 1);
        }
        Check.due("fields of " + one.getName() + " are twenty at most", fields <= 20 ? 1 : 0, 1);
        for (Method m : one.getDeclaredMethods()) {
            Check.due("parameters of " + m.getName() + " are seven at most", m.getParameterCount() <= 7 ? 1 : 0, 1);
        }
    }

    private static void theFace() {
        Map<String, String> face = new TreeMap<>();
        Set<String> hidden = new TreeSet<>();
        for (Method m : CaveYears.class.getDeclaredMethods()) {
            if (!Modifier.isPublic(m.getModifiers())) {
                Check.due("private: " + m.getName(), Modifier.isPrivate(m.getModifiers()) ? 1 : 0, 1);
                hidden.add(m.getName());
                continue;
            }
            StringBuilder types = new StringBuilder();
            for (Class<?> type : m.getParameterTypes()) {
                types.append(types.length() > 0 ? "," : "").append(type.getName());
            }
            Check.due("answers an int: " + m.getName(), m.getReturnType() == int.class ? 1 : 0, 1);
            face.put(m.getName(), types.toString());
        }
        StringBuilder s = new StringBuilder();
        for (Map.Entry<String, String> e : face.entrySet()) {
            s.append(e.getKey()).append(':').append(e.getValue()).append(';');
        }
        Check.same("the methods", s.toString(), FACE);
        int constants = 0;
        for (Field f : CaveYears.class.getDeclaredFields()) {
            Check.due("public or private: " + f.getName(), Modifier.isPublic(f.getModifiers()) != Modifier.isPrivate(f.getModifiers()) ? 1 : 0, 1);
            constants += Modifier.isPublic(f.getModifiers()) ? 1 : 0;
        }
        Check.due("constants", constants, 5);
        Constructor<?>[] all = CaveYears.class.getDeclaredConstructors();
        Check.due("constructors", all.length, 1);
        Check.due("public final", CaveYears.class.getModifiers() & (Modifier.PUBLIC | Modifier.FINAL), Modifier.PUBLIC | Modifier.FINAL);
        for (Class<?> inside : CaveYears.class.getDeclaredClasses()) {
            Check.due("static: " + inside.getName(), Modifier.isStatic(inside.getModifiers()) ? 1 : 0, 1);
            for (Method m : inside.getDeclaredMethods()) {
                Check.due("no public name inside: " + m.getName(), face.containsKey(m.getName()) ? 1 : 0, 0);
            }
        }
        for (String name : hidden) {
            Check.due("no public name: " + name, face.containsKey(name) ? 1 : 0, 0);
        }
    }
}
