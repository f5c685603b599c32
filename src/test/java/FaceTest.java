import java.lang.reflect.Constructor;
import java.lang.reflect.Field;
import java.lang.reflect.Method;
import java.lang.reflect.Modifier;
import java.nio.file.Files;
import java.nio.file.Path;
import java.util.ArrayList;
import java.util.Arrays;
import java.util.List;
import java.util.Set;
import java.util.TreeSet;
import java.util.regex.Matcher;
import java.util.regex.Pattern;

/** The public face, what of LANGUAGE.md can be seen from outside, and that calls make no objects. */
public final class FaceTest {
    private static final String[] FACE = {
        "append(int)", "clearText()", "errorPosition()", "load()", "about(int)", "order(int,int)", "lot(int,int)",
        "reader(int,int)", "delivered(int,int)", "setting(int)", "ask(int,int,int,int)", "cancel(int)",
        "raise(int,int)", "nights(int)", "give(int,int)", "set(int,int)", "undo()", "arrives(int)", "next(int)",
        "feeFor(int)", "would(int,int)", "bestRule()", "leastRoom()", "runScript(int,long)", "simulate(long,int)",
        "save(int)", "restore(int)"};
    private static final String[] FORBIDDEN = {"->", "::", "catch", "finally", "synchronized", "assert", "getMessage",
        "System\\.(?!arraycopy)", "Exact\\(", "float", "double", "instanceof", "\\bvar\\b", "@"};

    private static final List<String> faults = new ArrayList<>();

    public static void main(String[] args) throws Exception {
        methods();
        fieldsAndConstructors();
        nestedClasses();
        source();
        callsMakeNoObjects();
        for (String fault : faults) {
            System.out.println(fault);
        }
        System.out.println("FaceTest: " + faults.size() + " faults");
        if (!faults.isEmpty()) {
            System.exit(1);
        }
    }

    private static void check(boolean good, String fault) {
        if (!good) {
            faults.add(fault);
        }
    }

    private static String signature(Method m) {
        StringBuilder b = new StringBuilder(m.getName()).append('(');
        for (Class<?> type : m.getParameterTypes()) {
            b.append(b.charAt(b.length() - 1) == '(' ? "" : ",").append(type.getName());
        }
        return b.append(')').toString();
    }

    private static void methods() {
        Set<String> open = new TreeSet<>();
        Set<String> names = new TreeSet<>();
        for (Method m : NightTrains.class.getDeclaredMethods()) {
            if (!Modifier.isPrivate(m.getModifiers())) {
                open.add(signature(m));
                names.add(m.getName());
                check(Modifier.isPublic(m.getModifiers()) && !Modifier.isStatic(m.getModifiers())
                        && m.getReturnType() == int.class, "not a method of the face: " + m);
            }
        }
        check(open.equals(new TreeSet<>(Arrays.asList(FACE))), "the methods are " + open);
        for (Class<?> nested : NightTrains.class.getDeclaredClasses()) {
            privateNames(nested, names);
        }
        privateNames(NightTrains.class, names);
    }

    private static void privateNames(Class<?> c, Set<String> names) {
        for (Method m : c.getDeclaredMethods()) {
            boolean own = !Modifier.isPublic(m.getModifiers());
            check(!own || !names.contains(m.getName()), "a method of one's own bears a public name: " + m);
            check(m.getParameterCount() <= 7, "more than seven parameters: " + m);
        }
    }

    private static void fieldsAndConstructors() throws Exception {
        for (Field f : NightTrains.class.getDeclaredFields()) {
            boolean constant = f.getName().equals("NONE");
            check(constant || Modifier.isPrivate(f.getModifiers()), "a field is not private: " + f);
            check(Modifier.isFinal(f.getModifiers()) || !Modifier.isStatic(f.getModifiers()), "static state: " + f);
        }
        Field none = NightTrains.class.getField("NONE");
        check(none.getInt(null) == -1 && none.getModifiers() == (Modifier.PUBLIC | Modifier.STATIC | Modifier.FINAL),
                "NONE is not as due");
        Constructor<?>[] made = NightTrains.class.getDeclaredConstructors();
        check(made.length == 1 && made[0].getParameterCount() == 0 && Modifier.isPublic(made[0].getModifiers()),
                "the constructors are " + Arrays.toString(made));
        int kind = NightTrains.class.getModifiers();
        check(Modifier.isPublic(kind) && Modifier.isFinal(kind), "the class is not public and final");
    }

    private static void nestedClasses() {
        Class<?>[] nested = NightTrains.class.getDeclaredClasses();
        check(nested.length <= 12, "more than twelve classes");
        for (Class<?> c : nested) {
            check(Modifier.isPrivate(c.getModifiers()) && Modifier.isStatic(c.getModifiers()), "not private static: " + c);
            for (Field f : c.getDeclaredFields()) {
                check(!Modifier.isStatic(f.getModifiers()) || Modifier.isFinal(f.getModifiers()), "static state: " + f);
            }
        }
    }

    private static void source() throws Exception {
        String all = Files.readString(Path.of("src/main/java/NightTrains.java"));
        for (int i = 0; i < all.length(); i++) {
            check(all.charAt(i) < 128, "a sign above 127 at " + i);
        }
        String code = all.replaceAll("(?s)/\\*.*?\\*/", "").replaceAll("//[^\n]*", "")
                .replaceAll("\"[^\"\n]*\"", "\"\"");
        for (String word : FORBIDDEN) {
            check(!Pattern.compile(word).matcher(code).find(), "forbidden in the source: " + word);
        }
        Matcher imports = Pattern.compile("import ([^;]*);").matcher(code);
        while (imports.find()) {
            check(imports.group(1).equals("java.util.Arrays"), "import of " + imports.group(1));
        }
        check(!code.contains("package "), "a package line");
    }

    /** All calls of one run share one small room: what a call needs is made in the constructor. */
    private static void callsMakeNoObjects() {
        com.sun.management.ThreadMXBean bean =
                (com.sun.management.ThreadMXBean) java.lang.management.ManagementFactory.getThreadMXBean();
        NightTrains x = new NightTrains();
        long unused = everyCall(x);
        long before = bean.getCurrentThreadAllocatedBytes();
        for (int i = 0; i < 200; i++) {
            unused += everyCall(x);
        }
        long bytes = bean.getCurrentThreadAllocatedBytes() - before;
        check(bytes < 20000, "5600 calls made " + bytes + " bytes of objects, " + unused);
    }

    private static long everyCall(NightTrains x) {
        x.clearText();
        for (int i = 0; i < 14; i++) {
            x.append("D13250o00504n1".charAt(i));
        }
        long sum = x.load() + x.errorPosition();
        sum += x.ask(0, 1, 2, 3) + x.ask(1, 2, 3, 4) + x.ask(1, 5, 3, 4) + x.raise(0, 1) + x.cancel(1);
        sum += x.nights(2) + x.give(0, 1) + x.set(0, 2) + x.undo() + x.ask(2, 9, 0, 1);
        sum += x.arrives(0) + x.next(0) + x.feeFor(3) + x.would(60, 0) + x.bestRule() + x.leastRoom();
        sum += x.runScript(3, 400021005010001L) + x.simulate(sum, 99) + x.save(0) + x.restore(0);
        sum += x.about(6) + x.about(8) + x.lot(1, 2) + x.reader(1, 1) + x.delivered(0, 0) + x.setting(0);
        return sum + x.order(0, 0);
    }
}
