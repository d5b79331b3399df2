import java.lang.reflect.Constructor;
import java.lang.reflect.Field;
import java.lang.reflect.Method;
import java.lang.reflect.Modifier;
import java.nio.file.Files;
import java.nio.file.Path;
import java.util.Arrays;
import java.util.IdentityHashMap;
import java.util.TreeSet;
import java.util.regex.Matcher;
import java.util.regex.Pattern;

/** The public face, and those rules of LANGUAGE.md that can be seen from outside. */
public final class FaceTest {
    private static final Check CHECK = new Check();

    private static final String[] FACE = {
        "int row(int,int,int)", "int set(int,int,int)", "int copy(int,int,int,int,int)", "int drop(int)",
        "int feed(int)", "int republic()", "int fault()", "int undo()",
        "int say(int,int,int,int)", "int unsay()", "int chance(int,int)", "int year(int)", "int drawn(int)",
        "int prophet(int,int)", "int saying(int,int)", "int odds(int,int,int)", "int fine(int,int)",
        "int net(int,int)", "long expected(int,int)", "int worst(int,int)", "int cheapest(int,int,int)",
        "int loopholes(int)", "int shut()", "int group(int,int)", "int could(int,int,int)",
        "long premium(int,int)", "int heeded()", "int plain(int)", "int image(int)", "int restore(int)",
        "int kind(int)", "int as(int,int)", "int ask(int,int)", "int trace(int)", "int count(int)", "int status()"};

    public static void main(String[] args) throws Exception {
        constants();
        members();
        classesInside();
        source();
        libraryCalls();
        methods();
        room();
        CHECK.end();
    }

    private static void constants() {
        CHECK.due("NONE", ProphetFines.NONE, -1000000);
        CHECK.due("BAD", ProphetFines.BAD, -1000001);
        CHECK.due("STATE", ProphetFines.STATE, -1000002);
        CHECK.due("FULL", ProphetFines.FULL, -1000003);
    }

    private static void members() {
        Class<?> face = ProphetFines.class;
        CHECK.holds("public and final", Modifier.isPublic(face.getModifiers()) && Modifier.isFinal(face.getModifiers()));
        Constructor<?>[] constructors = face.getDeclaredConstructors();
        CHECK.holds("one public constructor without parameters", constructors.length == 1
                && Modifier.isPublic(constructors[0].getModifiers()) && constructors[0].getParameterCount() == 0);
        TreeSet<String> seen = new TreeSet<>();
        TreeSet<String> publicNames = new TreeSet<>();
        for (Method m : face.getDeclaredMethods()) {
            if (Modifier.isPublic(m.getModifiers())) {
                seen.add(signature(m));
                publicNames.add(m.getName());
            }
        }
        TreeSet<String> due = new TreeSet<>(Arrays.asList(FACE));
        CHECK.holds("public methods are " + seen, seen.equals(due));
        for (Method m : face.getDeclaredMethods()) {
            boolean isPrivate = Modifier.isPrivate(m.getModifiers());
            CHECK.holds(m + " is public or private", isPrivate || Modifier.isPublic(m.getModifiers()));
            CHECK.holds(m + " bears no public name", !isPrivate || !publicNames.contains(m.getName()));
        }
        TreeSet<String> fields = new TreeSet<>();
        for (Field f : face.getDeclaredFields()) {
            if (!Modifier.isPrivate(f.getModifiers())) {
                fields.add(f.getName());
            }
        }
        CHECK.holds("fields that can be seen are " + fields,
                fields.equals(new TreeSet<>(Arrays.asList("NONE", "BAD", "STATE", "FULL"))));
    }

    private static String signature(Method m) {
        StringBuilder s = new StringBuilder(m.getReturnType().getName()).append(' ').append(m.getName()).append('(');
        for (Class<?> p : m.getParameterTypes()) {
            s.append(s.charAt(s.length() - 1) == '(' ? "" : ",").append(p.getName());
        }
        return s.append(')').toString();
    }

    private static void classesInside() {
        Class<?>[] inside = ProphetFines.class.getDeclaredClasses();
        CHECK.holds("some twelve classes at most", inside.length < 12);
        for (Class<?> c : inside) {
            CHECK.holds(c + " is static", Modifier.isStatic(c.getModifiers()));
            CHECK.holds(c + " is hidden", !Modifier.isPublic(c.getModifiers()) && !Modifier.isProtected(c.getModifiers()));
            int fields = 0;
            for (Field f : c.getDeclaredFields()) {
                boolean isStatic = Modifier.isStatic(f.getModifiers());
                CHECK.holds(f + " is final if it is static", !isStatic || Modifier.isFinal(f.getModifiers()));
                fields += isStatic ? 0 : 1;
            }
            CHECK.holds(c + " has some twenty fields at most", fields <= 20);
        }
    }

    /** The class without its comments and texts. */
    private static String code() throws Exception {
        return Files.readString(Path.of("src/main/java/ProphetFines.java"))
                .replaceAll("(?s)/\\*.*?\\*/", "").replaceAll("//[^\n]*", "").replaceAll("\"[^\"\n]*\"", "\"\"");
    }

    private static void source() throws Exception {
        String code = code();
        for (String word : new String[] {"throw", "throws", "try", "catch", "finally", "synchronized", "assert",
                "double", "float", "package", "\\w+Exact", "hashCode", "toString", "Thread", "Random"}) {
            CHECK.holds("no " + word, !Pattern.compile("\\b" + word + "\\b").matcher(code).find());
        }
        CHECK.holds("no lambda, no method reference", !code.contains("->") && !code.contains("::"));
        Matcher imports = Pattern.compile("import ([\\w.]+);").matcher(code);
        while (imports.find()) {
            CHECK.holds("import " + imports.group(1),
                    imports.group(1).matches("java\\.util\\.(Arrays|ArrayList|List|Iterator)"));
        }
    }

    /** Rule 4: what is called of the library's classes is on its list. */
    private static void libraryCalls() throws Exception {
        Matcher calls = Pattern.compile("\\b(Arrays|System|Math|Integer|Long|String|List|ArrayList)\\.(\\w+)").matcher(code());
        while (calls.find()) {
            CHECK.holds(calls.group() + " is on the list", calls.group().matches(
                    "Arrays\\.(fill|copyOf|copyOfRange)|System\\.arraycopy|List\\.of"
                    + "|(Math|Integer|Long)\\.(abs|max|min|compare|bitCount|floorDiv|floorMod)"));
        }
    }

    /** Rules 5 and 11: how long methods are, how many numbers they take, and no block of static code. */
    private static void methods() throws Exception {
        Class<?>[] inside = ProphetFines.class.getDeclaredClasses();
        Class<?>[] all = Arrays.copyOf(inside, inside.length + 1);
        all[inside.length] = ProphetFines.class;
        for (Class<?> c : all) {
            for (Method m : c.getDeclaredMethods()) {
                CHECK.holds(m + " takes seven at most", m.getParameterCount() <= 7);
            }
        }
        String code = code();
        CHECK.holds("no static block", !Pattern.compile("\\bstatic\\s*\\{").matcher(code).find());
        Matcher bodies = Pattern.compile("(?ms)^(    |        )[^ \n}][^;\n]*\\) \\{$(.*?)^\\1\\}$").matcher(code);
        int found = 0;
        while (bodies.find()) {
            found++;
            CHECK.holds("sixty lines at most:" + bodies.group(2).lines().limit(3).toList(),
                    bodies.group(2).lines().count() <= 60);
        }
        CHECK.holds("methods were found: " + found, found > 100);
    }

    /** All calls of a run live in one room: so only what an object is made of makes objects, and no call does. */
    private static void room() throws Exception {
        Pattern madeOnce = Pattern.compile("final [\\w\\[\\]]+ \\w+ = new |(images|before)\\[\\w\\] = new Republic\\(\\);");
        for (String line : code().split("\n")) {
            if (line.matches(".*\\bnew\\b.*")) {
                CHECK.holds("made once: " + line.strip(), madeOnce.matcher(line).find());
            }
        }
        int objects = objectsOf(new ProphetFines(), new IdentityHashMap<>());
        CHECK.holds("objects and arrays of one ProphetFines: " + objects, objects > 1 && objects <= 300);
    }

    private static int objectsOf(Object from, IdentityHashMap<Object, Object> seen) throws Exception {
        if (from == null || from instanceof String || seen.put(from, from) != null) {
            return 0;
        }
        int found = 1;
        if (from instanceof Object[] parts) {
            for (Object part : parts) {
                found += objectsOf(part, seen);
            }
        } else if (!from.getClass().isArray()) {
            for (Field f : from.getClass().getDeclaredFields()) {
                if (!Modifier.isStatic(f.getModifiers()) && !f.getType().isPrimitive()) {
                    f.setAccessible(true);
                    found += objectsOf(f.get(from), seen);
                }
            }
        }
        return found;
    }
}
