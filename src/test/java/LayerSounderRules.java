import java.lang.management.ManagementFactory;
import java.lang.reflect.Constructor;
import java.lang.reflect.Field;
import java.lang.reflect.Method;
import java.lang.reflect.Modifier;
import java.nio.file.Files;
import java.nio.file.Path;
import java.util.ArrayList;
import java.util.HashSet;
import java.util.List;
import java.util.Map;
import java.util.Set;
import java.util.TreeMap;
import java.util.TreeSet;
import java.util.regex.Matcher;
import java.util.regex.Pattern;

/** The rules that bind the program's file: its face, its words, its sizes, and that no call throws or makes objects. */
public final class LayerSounderRules {
    private static final String[] FACE = {
        "int reel(int,int,int)", "int lose(int)", "int put(int,int,int,int)", "int get(int,int,int)",
        "int copy(int,int,int,int,int)", "int cells(int)", "int ping(int,int,int,int)", "int mend(int,int)",
        "int clear()", "int about(int,int)", "long own(int,int)", "int motion(int)", "int skew(int)",
        "int laws(int,boolean,int)", "int answer(int,int,int,int,int)", "int beam(int,int,int,int,int)",
        "int turned(int,int,int,int)", "int fate(int,int)", "long pace(int,int,int)", "int fates(int)",
        "long box(int,int,int,int,int)", "long mean(int,int,int,int,int)", "long flow(int,int,int)",
        "int askew(int,int,int,int)", "int closes(int,int)", "int count(int)", "long digest()"
    };
    private static final int[] EXTREMES = {
        Integer.MIN_VALUE, Integer.MIN_VALUE + 1, -1000001, -1, 0, 1, 3, 7, 15, 16, 35, 39, 40, 199, 200, 201,
        20000, 1000000, Integer.MAX_VALUE - 1, Integer.MAX_VALUE
    };
    private static final int CALLS = 512, OBJECTS = 200;
    private static final int MOST_CLASSES = 12, MOST_FIELDS = 20, MOST_LINES = 60, MOST_DEEP = 8;

    private static int wrong = 0;

    private static void tell(String what) {
        wrong++;
        System.out.println(what);
    }

    public static void main(String[] args) throws Exception {
        String text = Files.readString(sourceFile(args));
        face();
        noOtherUseOfPublicNames();
        wordsOfTheFile(withoutComments(text));
        sizesOfClasses();
        sizesOfMethods(bodiesOfMethods(withoutComments(text)));
        noCallThrows();
        noCallMakesObjects();
        System.out.println(wrong == 0 ? "all rules are kept" : wrong + " rules are not kept");
        if (wrong != 0) {
            System.exit(1);
        }
    }

    private static Path sourceFile(String[] args) {
        return Path.of(args.length > 0 ? args[0] : "src/main/java/LayerSounder.java");
    }

    // ---- the face

    private static void face() {
        Class<?> type = LayerSounder.class;
        if (type.getModifiers() != (Modifier.PUBLIC | Modifier.FINAL)) {
            tell("the class is not public and final alone");
        }
        Set<String> due = new TreeSet<>(List.of(FACE));
        Set<String> seen = new TreeSet<>();
        for (Method m : type.getDeclaredMethods()) {
            if (!Modifier.isPrivate(m.getModifiers())) {
                seen.add(signature(m));
            }
        }
        if (!seen.equals(due)) {
            tell("the methods seen are " + seen + ", due are " + due);
        }
        Constructor<?>[] makers = type.getDeclaredConstructors();
        if (makers.length != 1 || makers[0].getParameterCount() != 0 || !Modifier.isPublic(makers[0].getModifiers())) {
            tell("there is not one public constructor without arguments");
        }
        Set<String> constants = new TreeSet<>();
        for (Field f : type.getDeclaredFields()) {
            if (!Modifier.isPrivate(f.getModifiers())) {
                constants.add(f.getName());
            }
            if (Modifier.isStatic(f.getModifiers()) && !Modifier.isFinal(f.getModifiers())) {
                tell("the static field " + f.getName() + " is not final");
            }
        }
        if (!constants.equals(new TreeSet<>(List.of("NONE", "BAD", "NOT", "FULL")))) {
            tell("the constants seen are " + constants);
        }
    }

    private static String signature(Method m) {
        StringBuilder s = new StringBuilder();
        for (Class<?> p : m.getParameterTypes()) {
            s.append(s.length() == 0 ? "" : ",").append(p.getName());
        }
        String extra = Modifier.toString(m.getModifiers()).equals("public") ? "" : Modifier.toString(m.getModifiers()) + " ";
        return extra + m.getReturnType().getName() + " " + m.getName() + "(" + s + ")";
    }

    private static void noOtherUseOfPublicNames() {
        Set<String> names = new HashSet<>();
        for (String f : FACE) {
            names.add(f.substring(f.indexOf(' ') + 1, f.indexOf('(')));
        }
        List<Method> others = new ArrayList<>(List.of(LayerSounder.class.getDeclaredMethods()));
        others.removeIf(m -> Modifier.isPublic(m.getModifiers()));
        for (Class<?> inside : LayerSounder.class.getDeclaredClasses()) {
            if (!Modifier.isStatic(inside.getModifiers())) {
                tell(inside + " is not static");
            }
            others.addAll(List.of(inside.getDeclaredMethods()));
        }
        for (Method m : others) {
            if (names.contains(m.getName())) {
                tell(m + " bears the name of a public method");
            }
            if (m.getParameterCount() > 7) {
                tell(m + " takes more than seven parameters");
            }
        }
    }

    // ---- the words

    private static String withoutComments(String text) {
        return text.replaceAll("(?s)/\\*.*?\\*/", " ").replaceAll("//[^\n]*", " ");
    }

    private static void wordsOfTheFile(String code) {
        String[] forbidden = {
            "throw", "throws", "try", "catch", "finally", "synchronized", "assert", "import", "package", "Exception",
            "protected", "Object", "equals", "hashCode", "toString", "MIN_VALUE", "MAX_VALUE"
        };
        for (String word : forbidden) {
            if (Pattern.compile("\\b" + word + "\\b").matcher(code).find()) {
                tell("the file says " + word);
            }
        }
        if (code.contains("->") || code.contains("::")) {
            tell("the file has a lambda, a method reference or an arrow");
        }
        Matcher library = Pattern.compile("\\b(Math|System|Integer|Long|Arrays)\\.(\\w+)").matcher(code);
        while (library.find()) {
            if (!List.of("abs", "min", "max", "floorDiv", "floorMod", "arraycopy").contains(library.group(2))) {
                tell("the file uses " + library.group());
            }
        }
    }

    // ---- the sizes

    private static void sizesOfClasses() {
        List<Class<?>> all = new ArrayList<>(List.of(LayerSounder.class.getDeclaredClasses()));
        all.add(LayerSounder.class);
        if (all.size() > MOST_CLASSES) {
            tell("there are " + all.size() + " classes");
        }
        for (Class<?> type : all) {
            int fields = 0;
            for (Field f : type.getDeclaredFields()) {
                fields += Modifier.isStatic(f.getModifiers()) ? 0 : 1;
            }
            if (fields > MOST_FIELDS) {
                tell(type + " has " + fields + " fields");
            }
        }
    }

    /** The lines of each method by its name; the file is laid out so that a method ends where its first line's indent does. */
    private static Map<String, List<String>> bodiesOfMethods(String code) {
        Pattern head = Pattern.compile("( +)(?:public |private )?(?:static )?(?:int|long|boolean|void) (\\w+)\\(.*\\) \\{");
        Map<String, List<String>> bodies = new TreeMap<>();
        List<String> body = null;
        String end = "";
        for (String line : code.split("\n")) {
            Matcher m = head.matcher(line);
            if (m.matches()) {
                body = new ArrayList<>();
                end = m.group(1) + "}";
                if (bodies.put(m.group(2), body) != null) {
                    tell("two methods are named " + m.group(2) + ", so calls can't be told apart by their names");
                }
            } else if (line.equals(end)) {
                body = null;
            } else if (body != null) {
                body.add(line);
            }
        }
        return bodies;
    }

    private static void sizesOfMethods(Map<String, List<String>> bodies) {
        int declared = declaredMethods();
        if (bodies.size() != declared) {
            tell(bodies.size() + " methods were found in the file, " + declared + " in its classes");
        }
        for (Map.Entry<String, List<String>> method : bodies.entrySet()) {
            if (method.getValue().size() > MOST_LINES) {
                tell(method.getKey() + " has " + method.getValue().size() + " lines");
            }
            int deep = deepest(bodies, method.getKey(), 0);
            if (deep > MOST_DEEP) {
                tell("the calls of " + method.getKey() + " go " + deep + " deep");
            }
        }
    }

    private static int declaredMethods() {
        int many = LayerSounder.class.getDeclaredMethods().length;
        for (Class<?> inside : LayerSounder.class.getDeclaredClasses()) {
            many += inside.getDeclaredMethods().length;
        }
        return many;
    }

    /** How many calls stand open at once below a method, itself included; a method that comes back to itself is too deep. */
    private static int deepest(Map<String, List<String>> bodies, String name, int above) {
        if (above > MOST_DEEP) {
            return 1;
        }
        int below = 0;
        Matcher call = Pattern.compile("\\b(\\w+)\\(").matcher(String.join("\n", bodies.get(name)));
        while (call.find()) {
            if (bodies.containsKey(call.group(1))) {
                below = Math.max(below, deepest(bodies, call.group(1), above + 1));
            }
        }
        return below + 1;
    }

    // ---- no call throws

    private static long seed = 7;

    private static int any(int bound) {
        seed = seed * 6364136223846793005L + 1442695040888963407L;
        return (int) ((seed >>> 33) % bound);
    }

    private static int extreme() {
        return EXTREMES[any(EXTREMES.length)];
    }

    private static void noCallThrows() throws Exception {
        List<Method> face = new ArrayList<>();
        for (Method m : LayerSounder.class.getDeclaredMethods()) {
            if (Modifier.isPublic(m.getModifiers())) {
                face.add(m);
            }
        }
        face.sort((a, b) -> a.getName().compareTo(b.getName()));
        for (int n = 0; n < OBJECTS; n++) {
            LayerSounder x = n % 2 == 0 ? new LayerSounder() : filled();
            for (int i = 0; i < CALLS; i++) {
                Method m = face.get(any(face.size()));
                Object[] arguments = new Object[m.getParameterCount()];
                for (int a = 0; a < arguments.length; a++) {
                    arguments[a] = m.getParameterTypes()[a] == boolean.class ? (Object) (any(2) == 0) : (Object) extreme();
                }
                try {
                    m.invoke(x, arguments);
                } catch (java.lang.reflect.InvocationTargetException e) {
                    tell(m.getName() + java.util.Arrays.toString(arguments) + " threw " + e.getCause());
                }
            }
        }
    }

    /** As many PINGS, CELLS and items as there can be, all GOOD. */
    private static LayerSounder filled() {
        LayerSounder x = new LayerSounder();
        x.cells(16);
        for (int r = 0; r < 8; r++) {
            x.reel(r, 2, 200);
        }
        for (int p = 0; p < 40; p++) {
            x.ping(p % 36, 1000000 - p, p - 1000000, 16);
        }
        return x;
    }

    // ---- no call makes objects

    private static void noCallMakesObjects() {
        java.lang.management.ThreadMXBean bean = ManagementFactory.getThreadMXBean();
        if (!(bean instanceof com.sun.management.ThreadMXBean)) {
            return;
        }
        com.sun.management.ThreadMXBean counter = (com.sun.management.ThreadMXBean) bean;
        if (!counter.isThreadAllocatedMemorySupported() || !counter.isThreadAllocatedMemoryEnabled()) {
            return;
        }
        LayerSounder x = filled();
        callAll(x);
        long before = counter.getCurrentThreadAllocatedBytes();
        for (int i = 0; i < CALLS; i++) {
            callAll(x);
        }
        long bytes = counter.getCurrentThreadAllocatedBytes() - before;
        // The counting itself may make a little; one object of 16 bytes in each call would make 200,000 bytes.
        if (bytes > 20000) {
            tell("the calls made " + bytes + " bytes of objects");
        }
    }

    private static long callAll(LayerSounder x) {
        long sum = x.reel(4, 2, 200) + x.lose(4) + x.reel(4, 2, 200) + x.put(0, 2, 1, 5) + x.get(0, 2, 1);
        sum += x.copy(0, 0, 1, 1, 9) + x.cells(3) + x.ping(0, 0, 0, 0) + x.mend(3, 4) + x.about(3, 4);
        sum += x.motion(1) + x.own(3, 1) + x.motion(2) + x.own(3, 0) + x.skew(5) + x.laws(1, false, 500);
        sum += x.answer(1, 2, 3, 4, 0) + x.beam(1, 2, 3, 4, 0) + x.turned(1, 2, 3, 0) + x.fate(2, 2) + x.pace(2, 2, 0);
        sum += x.fates(0) + x.box(0, 39, 0, 15, 1) + x.mean(0, 39, 0, 15, 1) + x.flow(0, 39, 1);
        return sum + x.askew(0, 9, 10, 39) + x.closes(0, 5) + x.count(5) + x.digest();
    }
}
