import java.lang.reflect.Constructor;
import java.lang.reflect.Method;
import java.lang.reflect.Modifier;
import java.nio.file.Files;
import java.nio.file.Path;
import java.util.ArrayList;
import java.util.List;
import java.util.Set;
import java.util.TreeSet;
import java.util.regex.Matcher;
import java.util.regex.Pattern;

/** The face as the document shows it, the rules of the language that a text tells, and every name. */
final class FaceTests {
    private static final String FACE = "int conjugate(int,int);int count(int);int distance(int,int);int done(int,int);"
        + "int drop();int from(int,int);int helper(int,int);int helps(int,int);int image();int inverse(int);"
        + "int judge(int,int);int lamp(int,int);int lays(int,int,int);int letter(int);int like(int,int);"
        + "int list(int,int);int lots(int,int,int,int);int of(int,int);int on();int power(int,int);"
        + "int put(int,int,int);int sphere(int);int step(int,int);int street(int,int,int);int sums(int,int);"
        + "int taken(int,int);int times(int,int);int word();int written(int,int);"
        + "long look(int,int);long odds(int,int);";
    private static final String[] RULED_OUT = {
        "throw", "try", "catch", "finally", "synchronized", "assert", "package", "import", "record", "instanceof Object",
        "->", "::", "@", "volatile", "native", "protected", "var ", "Exact", "toString", "hashCode", ".equals("};

    private static final Pattern LIBRARY =
        Pattern.compile("\\b(Math|Integer|Long|Short|Byte|Character|Boolean|Double|Float|String|Arrays|System|List|java)\\.\\w+");
    private static final Set<String> CALLED = Set.of("Math.max", "Math.min", "Math.abs", "Math.floorMod");
    // A head with its brace at the line's end, and all up to the brace that stands just below the head.
    private static final Pattern METHOD = Pattern.compile("(?ms)^( +)([^\\n=]*\\) \\{\\n.*?)^\\1\\}$");

    private FaceTests() {
    }

    static void run(Check check) throws Exception {
        face(check);
        source(check);
        sizes(check);
        wildArguments(check);
        nothingIsMadeAnew(check);
    }

    private static void face(Check check) {
        Class<?> c = LampsAlongStreets.class;
        check.holds("public and final", c.getModifiers() == (Modifier.PUBLIC | Modifier.FINAL));
        TreeSet<String> shown = new TreeSet<>();
        TreeSet<String> publicNames = new TreeSet<>();
        for (Method method : c.getDeclaredMethods()) {
            if (Modifier.isPublic(method.getModifiers())) {
                publicNames.add(method.getName());
                StringBuilder text = new StringBuilder(method.getReturnType() + " " + method.getName() + "(");
                for (int i = 0; i < method.getParameterCount(); i++) {
                    text.append(i > 0 ? "," : "").append(method.getParameterTypes()[i]);
                }
                shown.add(text + ");");
            } else {
                check.holds("private: " + method, Modifier.isPrivate(method.getModifiers()));
            }
        }
        check.holds("the face is the document's: " + String.join("", shown), String.join("", shown).equals(FACE));
        for (java.lang.reflect.Field field : c.getDeclaredFields()) {
            check.holds("private: " + field, Modifier.isPrivate(field.getModifiers()));
            check.holds("final if static: " + field,
                !Modifier.isStatic(field.getModifiers()) || Modifier.isFinal(field.getModifiers()));
        }
        Constructor<?>[] made = c.getDeclaredConstructors();
        check.holds("one constructor", made.length == 1 && Modifier.isPublic(made[0].getModifiers()));
        for (Class<?> inside : c.getDeclaredClasses()) {
            check.holds("static: " + inside, Modifier.isStatic(inside.getModifiers()));
            check.holds("not public: " + inside, !Modifier.isPublic(inside.getModifiers()));
            for (Method method : inside.getDeclaredMethods()) {
                check.holds("bears no public name: " + method, !publicNames.contains(method.getName()));
            }
        }
        check.holds("some twelve classes", c.getDeclaredClasses().length <= 11);
    }

    private static void source(Check check) throws Exception {
        String text = Files.readString(Path.of("src/main/java/LampsAlongStreets.java"));
        String code = text.replaceAll("(?s)/\\*.*?\\*/", "").replaceAll("//[^\n]*", "");
        for (String word : RULED_OUT) {
            check.holds("the program has no " + word, !code.matches("(?s).*(?<![A-Za-z])\\Q" + word + "\\E.*"));
        }
        check.holds("signs 1 to 127 alone", text.chars().allMatch(c -> c > 0 && c < 128));
        Matcher library = LIBRARY.matcher(code);
        while (library.find()) {
            check.holds("the library has " + library.group(), CALLED.contains(library.group()));
        }
        Matcher method = METHOD.matcher(code);
        while (method.find()) {
            check.holds("at most sixty lines: " + method.group(2).split("\n")[0], method.group(2).split("\n").length <= 60);
        }
    }

    /** Rule 11, of the class and those inside it. */
    private static void sizes(Check check) {
        List<Class<?>> classes = new ArrayList<>(List.of(LampsAlongStreets.class.getDeclaredClasses()));
        classes.add(LampsAlongStreets.class);
        for (Class<?> c : classes) {
            long fields = List.of(c.getDeclaredFields()).stream().filter(f -> !Modifier.isStatic(f.getModifiers())).count();
            check.holds("some twenty fields: " + c, fields <= 20);
            for (Method method : c.getDeclaredMethods()) {
                check.holds("at most seven parameters: " + method, method.getParameterCount() <= 7);
            }
            for (Constructor<?> made : c.getDeclaredConstructors()) {
                check.holds("at most seven parameters: " + made, made.getParameterCount() <= 7);
            }
        }
    }

    /** Every call with every mixture of far numbers, on empty and on full objects: it must answer. */
    private static void wildArguments(Check check) {
        int[] wild = {Integer.MIN_VALUE, -13, -1, 0, 1, 5, 12, 40, Integer.MAX_VALUE};
        for (int full = 0; full < 3; full++) {
            LampsAlongStreets x = full == 0 ? new LampsAlongStreets()
                : full == 1 ? Told.line(3, "a", "t9t3a", "T9T3a", "ta", "Ta", "aTatta")
                : Told.ring(8, 5, "a", "t9t3a", "T9T3a", "ta", "Ta", "aTatta");
            x.list(0, 40);
            x.list(1, 3);
            x.helper(3, 9);
            x.image();
            for (String name : names()) {
                int places = places(name);
                int mixtures = 1;
                for (int i = 0; i < places; i++) {
                    mixtures *= wild.length;
                }
                for (int mixture = 0; mixture < mixtures; mixture++) {
                    int[] given = new int[places];
                    for (int i = 0, rest = mixture; i < places; i++, rest /= wild.length) {
                        given[i] = wild[rest % wild.length];
                    }
                    call(x, name, given);
                    x.on();
                }
                check.holds(name + " answered all", true);
            }
        }
    }

    /** The room is one for all calls: the dearest of them make nothing, or nearly so. */
    private static void nothingIsMadeAnew(Check check) {
        com.sun.management.ThreadMXBean bean =
            (com.sun.management.ThreadMXBean) java.lang.management.ManagementFactory.getThreadMXBean();
        LampsAlongStreets x = Told.line(5, "a2t9t3aT9T9T6A2t6", "ta", "Ta");
        x.helper(3, 9);
        x.list(0, 40);
        // Once before, so that the machine has loaded what it needs.
        dearCalls(x);
        long before = bean.getThreadAllocatedBytes(Thread.currentThread().getId());
        for (int i = 0; i < 100; i++) {
            dearCalls(x);
        }
        long each = (bean.getThreadAllocatedBytes(Thread.currentThread().getId()) - before) / 100;
        check.holds("the dear calls make " + each + " bytes", each < 2000);
    }

    private static void dearCalls(LampsAlongStreets x) {
        x.of(0, 6);
        x.sphere(5);
        x.lots(30, 12, 7, 1);
        x.written(0, -1);
        x.like(0, 0);
        x.distance(0, 1);
        x.conjugate(1, 2);
        x.drop();
        x.image();
        x.on();
        x.list(0, 40);
    }

    static List<String> names() {
        List<String> names = new ArrayList<>();
        for (String part : FACE.split(";")) {
            names.add(part.substring(part.indexOf(' ') + 1, part.indexOf('(')));
        }
        return names;
    }

    static int places(String name) {
        for (String part : FACE.split(";")) {
            if (part.contains(" " + name + "(")) {
                return part.split("int", -1).length - (part.startsWith("int") ? 2 : 1);
            }
        }
        throw new IllegalStateException(name);
    }

    static long call(LampsAlongStreets x, String name, int[] a) {
        switch (name) {
            case "letter": return x.letter(a[0]);
            case "word": return x.word();
            case "street": return x.street(a[0], a[1], a[2]);
            case "drop": return x.drop();
            case "of": return x.of(a[0], a[1]);
            case "lamp": return x.lamp(a[0], a[1]);
            case "times": return x.times(a[0], a[1]);
            case "inverse": return x.inverse(a[0]);
            case "power": return x.power(a[0], a[1]);
            case "conjugate": return x.conjugate(a[0], a[1]);
            case "distance": return x.distance(a[0], a[1]);
            case "like": return x.like(a[0], a[1]);
            case "sums": return x.sums(a[0], a[1]);
            case "sphere": return x.sphere(a[0]);
            case "written": return x.written(a[0], a[1]);
            case "odds": return x.odds(a[0], a[1]);
            case "lots": return x.lots(a[0], a[1], a[2], a[3]);
            case "helper": return x.helper(a[0], a[1]);
            case "helps": return x.helps(a[0], a[1]);
            case "taken": return x.taken(a[0], a[1]);
            case "done": return x.done(a[0], a[1]);
            case "step": return x.step(a[0], a[1]);
            case "list": return x.list(a[0], a[1]);
            case "put": return x.put(a[0], a[1], a[2]);
            case "look": return x.look(a[0], a[1]);
            case "lays": return x.lays(a[0], a[1], a[2]);
            case "from": return x.from(a[0], a[1]);
            case "judge": return x.judge(a[0], a[1]);
            case "image": return x.image();
            case "on": return x.on();
            case "count": return x.count(a[0]);
            default: throw new IllegalStateException(name);
        }
    }
}
