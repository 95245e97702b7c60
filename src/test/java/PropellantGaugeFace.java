import java.io.IOException;
import java.lang.reflect.Constructor;
import java.lang.reflect.Field;
import java.lang.reflect.Member;
import java.lang.reflect.Method;
import java.lang.reflect.Modifier;
import java.nio.file.Files;
import java.nio.file.Path;
import java.util.Arrays;
import java.util.List;
import java.util.Random;
import java.util.Set;
import java.util.TreeSet;
import java.util.regex.Matcher;
import java.util.regex.Pattern;

/** The class has the document's face and keeps to LANGUAGE.md, and no call throws, whatever its arguments are. */
public final class PropellantGaugeFace {
    private static final Checks CHECKS = new Checks("face");
    private static final Path SOURCE = Path.of("src/main/java/PropellantGauge.java");

    private static final String[] METHODS = {"int addTank(int,int)", "int addPoint(int,int,int)", "long volume(int,int)",
        "long load(int,int,int)", "int setLeak(int,int)", "long setGaugeVariance(int,long)", "int tankCount()",
        "long mass(int,int)", "int set(int,int)", "int letter(int)", "int addEngine(int,int)", "int engineNamed()",
        "int setValve(int,int,int)", "long used(int)", "long delivered(int)", "int ignite(int)", "int cutoff()",
        "int pass(int)", "int time()", "int burn(int)", "int read(int,int)", "int weight(int)", "int entryCount()",
        "long entry(int,int)", "int type(int)", "int clearText()", "int fault()", "int execute()",
        "int longestBurn(int)", "long planned()", "long drift(int)"};
    private static final String[] CONSTANTS = {"int INVALID_ARGUMENT", "int NOT_POSSIBLE", "int CAPACITY_EXCEEDED",
        "int NOT_FOUND", "long ERROR", "int ACCEPTED", "int OUTLIER", "int UNSETTLED"};

    public static void main(String[] args) throws Exception {
        publicFace();
        noPrivateMethodBearsAPublicName();
        nestedClasses();
        parameters();
        source();
        methodLengths();
        callDepths();
        for (int seed = 0; seed < 200; seed++) {
            wildCalls(new Random(seed));
        }
        CHECKS.finish();
    }

    private static void publicFace() {
        Class<?> type = PropellantGauge.class;
        int modifiers = type.getModifiers();
        due("public final class", Modifier.isPublic(modifiers) && Modifier.isFinal(modifiers) ? 1 : 0, 1);
        Set<String> methods = new TreeSet<>();
        for (Method m : type.getDeclaredMethods()) {
            if (!isPrivate(m)) {
                methods.add(signature(m) + (Modifier.isPublic(m.getModifiers()) && !isStatic(m) ? "" : " not as due"));
            }
        }
        same("methods", methods, METHODS);
        Set<String> constants = new TreeSet<>();
        for (Field f : type.getDeclaredFields()) {
            if (!isPrivate(f)) {
                boolean constant = Modifier.isPublic(f.getModifiers()) && isStatic(f) && Modifier.isFinal(f.getModifiers());
                constants.add(f.getType().getName() + " " + f.getName() + (constant ? "" : " not as due"));
            }
        }
        same("constants", constants, CONSTANTS);
        Constructor<?>[] constructors = type.getDeclaredConstructors();
        due("one constructor", constructors.length, 1);
        due("without parameters", constructors[0].getParameterCount(), 0);
        due("public", Modifier.isPublic(constructors[0].getModifiers()) ? 1 : 0, 1);
    }

    private static void noPrivateMethodBearsAPublicName() {
        Set<String> names = new TreeSet<>();
        for (String method : METHODS) {
            names.add(method.replaceAll(".* |\\(.*", ""));
        }
        for (Method m : PropellantGauge.class.getDeclaredMethods()) {
            if (isPrivate(m) && names.contains(m.getName())) {
                CHECKS.fail("the private method " + m.getName() + " bears a public name");
            }
        }
        for (Class<?> nested : PropellantGauge.class.getDeclaredClasses()) {
            for (Method m : nested.getDeclaredMethods()) {
                if (names.contains(m.getName())) {
                    CHECKS.fail("the method " + m.getName() + " of a nested class bears a public name");
                }
            }
        }
    }

    private static void nestedClasses() {
        Class<?>[] nested = PropellantGauge.class.getDeclaredClasses();
        due("at most twelve classes", nested.length + 1 <= 12 ? 1 : 0, 1);
        for (Class<?> type : nested) {
            due(type + " is static", Modifier.isStatic(type.getModifiers()) ? 1 : 0, 1);
            due(type + " is not public", Modifier.isPublic(type.getModifiers()) ? 1 : 0, 0);
            long fields = Arrays.stream(type.getDeclaredFields()).filter(f -> !isStatic(f)).count();
            due(type + " has at most twenty fields", fields <= 20 ? 1 : 0, 1);
        }
    }

    private static void parameters() {
        for (Class<?> nested : PropellantGauge.class.getDeclaredClasses()) {
            for (Method m : nested.getDeclaredMethods()) {
                due(m + " has at most seven parameters", m.getParameterCount() <= 7 ? 1 : 0, 1);
            }
        }
        for (Method m : PropellantGauge.class.getDeclaredMethods()) {
            due(m + " has at most seven parameters", m.getParameterCount() <= 7 ? 1 : 0, 1);
        }
    }

    /** The code without its comments, and with nothing in its texts and characters. */
    private static String bareSource() throws IOException {
        String code = Files.readString(SOURCE).replaceAll("(?s)/\\*.*?\\*/", "").replaceAll("//[^\n]*", "");
        return code.replaceAll("\"[^\"]*\"", "\"\"").replaceAll("'.'", "' '");
    }

    private static void methodLengths() throws IOException {
        Matcher method = Pattern.compile("(?m)^( {4}| {8})((?:[\\w\\[\\]]+ )*\\w+\\([^{;]*\\)) \\{$(?s:.*?)^\\1\\}$")
                .matcher(bareSource());
        int methods = 0;
        while (method.find()) {
            methods++;
            long lines = method.group().lines().count();
            due(method.group(2) + " has at most sixty lines", lines <= 60 ? 1 : 0, 1);
        }
        due("methods were found", methods > 80 ? 1 : 0, 1);
    }

    private static void callDepths() throws IOException {
        CallDepths depths = new CallDepths(SOURCE);
        due("methods were read", depths.methods().size() > 80 ? 1 : 0, 1);
        for (String method : depths.methods()) {
            List<String> chain = depths.deepestFrom(method);
            due(chain + " is at most eight deep", chain.size() <= 8 ? 1 : 0, 1);
        }
    }

    private static void source() throws IOException {
        String bare = bareSource();
        String[] forbidden = {"throw", "throws", "try", "catch", "finally", "synchronized", "assert", "import", "package",
            "protected", "volatile", "transient", "native", "Object", "System\\.(?!arraycopy)\\w+", "\\w+Exact", "->",
            "::", "@\\w+", "static\\s*\\{", "var", "yield", "instanceof"};
        for (String word : forbidden) {
            Matcher m = Pattern.compile("(?<!\\w)" + word + "(?!\\w)").matcher(bare);
            if (m.find()) {
                CHECKS.fail("the source contains " + m.group());
            }
        }
        Matcher library = Pattern.compile("\\b(Math|System|Integer|Long|Arrays|String|List)\\.\\w+").matcher(bare);
        while (library.find()) {
            if (!Set.of("Math.max", "Math.min", "Math.floorDiv", "Math.floorMod", "System.arraycopy")
                    .contains(library.group())) {
                CHECKS.fail("the source calls " + library.group());
            }
        }
        due("no texts are joined by +", Pattern.compile("\"\\s*\\+|\\+\\s*\"").matcher(bare).find() ? 1 : 0, 0);
        due("characters are ASCII", Files.readString(SOURCE).chars().allMatch(c -> c < 128) ? 1 : 0, 1);
        // Only constructors make objects, so that the calls of a run make none.
        Matcher made = Pattern.compile("(?m)^.*\\bnew\\b.*$").matcher(bare);
        while (made.find()) {
            if (!made.group().matches("\\s+[\\w\\[\\]]+ = new \\w+(\\(\\)|\\[\\w+\\]);")) {
                CHECKS.fail("something is made outside of a constructor: " + made.group().trim());
            }
        }
    }

    /** Calls with arguments of any kind, mixed with some that build a craft up. */
    private static void wildCalls(Random random) throws Exception {
        PropellantGauge x = new PropellantGauge();
        Method[] methods = Arrays.stream(PropellantGauge.class.getMethods())
                .filter(m -> m.getDeclaringClass() == PropellantGauge.class).toArray(Method[]::new);
        Arrays.sort(methods, (a, b) -> signature(a).compareTo(signature(b)));
        for (int call = 0; call < 512; call++) {
            Method m = methods[random.nextInt(methods.length)];
            Class<?>[] types = m.getParameterTypes();
            Object[] arguments = new Object[types.length];
            for (int i = 0; i < types.length; i++) {
                long value = wildValue(random);
                if (types[i] == int.class) {
                    arguments[i] = (int) value;
                } else {
                    arguments[i] = value;
                }
            }
            try {
                m.invoke(x, arguments);
            } catch (java.lang.reflect.InvocationTargetException e) {
                CHECKS.fail(m.getName() + Arrays.toString(arguments) + " threw " + e.getCause());
            }
            if (random.nextInt(60) == 0) {
                Checks.write(x, "start a;wait 30;read 0 5;stop;");
            }
        }
    }

    private static long wildValue(Random random) {
        int[] likely = {0, 0, 0, 1, 1, 2, 3, 4, 5, 6, 8, 24, 97, 98, 100, 1000, 2000, -1, -4, Integer.MIN_VALUE,
            Integer.MAX_VALUE, 1000000000, 10000};
        switch (random.nextInt(8)) {
            case 0:
                return random.nextLong();
            case 1:
                return random.nextInt(10000);
            default:
                return likely[random.nextInt(likely.length)];
        }
    }

    private static boolean isPrivate(Member m) {
        return Modifier.isPrivate(m.getModifiers());
    }

    private static boolean isStatic(Member m) {
        return Modifier.isStatic(m.getModifiers());
    }

    private static String signature(Method m) {
        StringBuilder s = new StringBuilder(m.getReturnType().getName() + " " + m.getName() + "(");
        for (Class<?> type : m.getParameterTypes()) {
            s.append(s.charAt(s.length() - 1) == '(' ? "" : ",").append(type.getName());
        }
        return s + ")";
    }

    private static void same(String what, Set<String> got, String[] want) {
        if (!got.equals(new TreeSet<>(Arrays.asList(want)))) {
            CHECKS.fail("the " + what + " are " + got);
        }
    }

    private static void due(String what, long got, long want) {
        CHECKS.due(what, got, want);
    }
}
