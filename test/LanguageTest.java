import java.lang.management.ManagementFactory;
import java.lang.reflect.Constructor;
import java.lang.reflect.Field;
import java.lang.reflect.Method;
import java.lang.reflect.Modifier;
import java.nio.file.Files;
import java.nio.file.Path;
import java.util.Arrays;
import java.util.List;
import java.util.TreeSet;
import java.util.regex.Matcher;
import java.util.regex.Pattern;

/** What can be told by looking of the rules of LANGUAGE.md, and that calls make no objects. */
public final class LanguageTest {
    private static final String[] FACE = {
        "set(int,int)", "weight(int,int)", "trust(int,int)", "hands(int,int)", "read()", "mend(int,int,int,int)",
        "sendBack(int)", "turn(int)", "trunk(int,int)", "pieces(int,int,int)", "alike(int,int)", "desk(int,int)",
        "count(int)", "untilGone(int)", "fate(int)", "mostDoubted()", "ifTurned(int,int)", "bestHand()",
        "leastSmall()", "put(long)", "wipe()", "fault()", "undo()", "save(int)", "restore(int)"};
    private static final String[] CONSTANTS = {"NO_SUCH", "BAD_VALUE", "BAD_TEXT", "TOO_MANY", "NOT_POSSIBLE", "NONE",
        "SMALL", "FEE", "FINE", "DELAY", "TARE", "OPENS"};

    private static final Check check = new Check("Language");

    public static void main(String[] args) throws Exception {
        face();
        names();
        source();
        noObjects();
        check.finish();
    }

    private static void sameNames(String what, TreeSet<String> got, List<String> due) {
        check.holds(what + ": " + got, got.equals(new TreeSet<>(due)));
    }

    private static void face() {
        Class<?> type = DoubtfulTrunks.class;
        check.holds("rule 1: public and final", Modifier.isPublic(type.getModifiers())
                && Modifier.isFinal(type.getModifiers()));
        TreeSet<String> methods = new TreeSet<>();
        for (Method method : type.getDeclaredMethods()) {
            if (Modifier.isPrivate(method.getModifiers())) continue;
            StringBuilder text = new StringBuilder(method.getName()).append('(');
            for (Class<?> parameter : method.getParameterTypes()) {
                text.append(text.charAt(text.length() - 1) == '(' ? "" : ",").append(parameter);
            }
            methods.add(text.append(')').toString());
            check.holds("rule 1: " + method, method.getReturnType() == int.class
                    && Modifier.isPublic(method.getModifiers()) && !Modifier.isStatic(method.getModifiers()));
        }
        sameNames("rule 1: the methods", methods, Arrays.asList(FACE));
        TreeSet<String> fields = new TreeSet<>();
        for (Field field : type.getDeclaredFields()) {
            if (!Modifier.isPrivate(field.getModifiers())) fields.add(field.getName());
        }
        sameNames("rule 1: the constants", fields, Arrays.asList(CONSTANTS));
        Constructor<?>[] constructors = type.getDeclaredConstructors();
        check.holds("rule 1: one public constructor", constructors.length == 1
                && Modifier.isPublic(constructors[0].getModifiers()) && constructors[0].getParameterCount() == 0);
    }

    private static void names() {
        TreeSet<String> face = new TreeSet<>();
        for (String method : FACE) face.add(method.substring(0, method.indexOf('(')));
        Class<?>[] inside = DoubtfulTrunks.class.getDeclaredClasses();
        check.holds("rule 11: few classes", inside.length <= 11);
        for (Class<?> type : inside) {
            check.holds("rule 2: static " + type, Modifier.isStatic(type.getModifiers())
                    && !Modifier.isPublic(type.getModifiers()) && !Modifier.isProtected(type.getModifiers()));
            for (Method method : type.getDeclaredMethods()) {
                check.holds("rule 1: name of " + method, !face.contains(method.getName()));
            }
            int own = 0;
            for (Field field : type.getDeclaredFields()) {
                boolean isStatic = Modifier.isStatic(field.getModifiers());
                check.holds("rule 5: " + field, !isStatic || Modifier.isFinal(field.getModifiers()));
                own += isStatic ? 0 : 1;
            }
            check.holds("rule 11: fields of " + type, own <= 20);
        }
    }

    private static void source() throws Exception {
        String text = Files.readString(Path.of("src/main/java/DoubtfulTrunks.java"));
        String code = text.replaceAll("(?s)/\\*.*?\\*/", "").replaceAll("//[^\n]*", "")
                .replaceAll("'(\\\\.|[^'])'", "' '");
        for (String word : new String[] {"throw", "throws", "try", "catch", "finally", "synchronized", "assert",
                "import", "package", "native", "volatile", "transient", "record", "enum", "interface", "default:? *->"}) {
            check.holds("rules 2, 4 and 6: no " + word, !Pattern.compile("\\b" + word + "\\b").matcher(code).find());
        }
        check.holds("rule 2: no lambda, no method reference", !code.contains("->") && !code.contains("::"));
        check.holds("rule 10: no texts are joined by +", !code.contains("\""));
        check.holds("rule 5: no static initialiser block", !Pattern.compile("static\\s*\\{").matcher(code).find());
        Matcher library = Pattern.compile("\\b([A-Z]\\w*[a-z]\\w*)\\.(\\w+)\\(").matcher(code);
        TreeSet<String> used = new TreeSet<>();
        while (library.find()) used.add(library.group(1) + "." + library.group(2));
        used.removeIf(name -> name.startsWith("Sheet."));
        sameNames("rule 4: what is used of the library", used,
                List.of("Integer.bitCount", "Math.abs", "Math.max", "Math.min", "System.arraycopy"));
        Matcher loop = Pattern.compile("while \\(").matcher(code);
        int whiles = 0;
        while (loop.find()) whiles++;
        check.due("rule 9: one while alone, that of put, with its counter", whiles, 1);
    }

    private static long allocated() {
        com.sun.management.ThreadMXBean bean = (com.sun.management.ThreadMXBean) ManagementFactory.getThreadMXBean();
        return bean.getThreadAllocatedBytes(Thread.currentThread().getId());
    }

    private static int dearCalls(DoubtfulTrunks x) {
        int sum = 0;
        for (int i = 0; i < 18; i++) {
            x.put(0x303A61322F623321L >>> 8);
            sum += x.read() + x.turn(2) + x.mend(i, 0, 0, 3) + x.sendBack(i) + x.untilGone(0) + x.fate(0)
                    + x.mostDoubted() + x.ifTurned(200, 2) + x.bestHand() + x.leastSmall() + x.wipe() + x.fault()
                    + x.undo() + x.save(0) + x.restore(0) + x.set(0, i) + x.weight(0, 2) + x.trust(0, 2)
                    + x.hands(0, i % 4) + x.trunk(0, 2) + x.desk(0, 2) + x.count(15) + x.alike(0, 1);
        }
        return sum;
    }

    /** The document's 512 calls must not fill the room in which a run lives. */
    private static void noObjects() {
        int sum = 0;
        for (int warm = 0; warm < 5; warm++) {
            sum += dearCalls(new DoubtfulTrunks());
        }
        DoubtfulTrunks x = new DoubtfulTrunks();
        long before = allocated();
        sum -= dearCalls(x) * 5;
        long made = allocated() - before;
        check.due("the same calls give the same answers", sum, 0);
        check.holds("calls make no objects: " + made + " bytes", made < 2000);
    }
}
