import java.lang.management.ManagementFactory;
import java.lang.reflect.Constructor;
import java.lang.reflect.Field;
import java.lang.reflect.Member;
import java.lang.reflect.Method;
import java.lang.reflect.Modifier;
import java.util.ArrayList;
import java.util.Arrays;
import java.util.List;
import java.util.TreeSet;

/**
 * The face of the class is the document's and no more, and no call but the
 * constructor makes objects, as all calls of a run share one room.
 */
public final class FaceTests {
    private static int wrong = 0;

    public static void main(String[] args) {
        theFace();
        theRules();
        theRoom();
        System.out.println(wrong == 0 ? "all answers are as due" : wrong + " answers are not as due");
        if (wrong != 0) {
            System.exit(1);
        }
    }

    private static void due(String what, Object got, Object want) {
        if (!got.equals(want)) {
            wrong++;
            System.out.println(what + " is " + got + ", due is " + want);
        }
    }

    private static boolean isSeen(Member member) {
        return !Modifier.isPrivate(member.getModifiers()) && !member.isSynthetic();
    }

    private static void theFace() {
        Class<?> face = BigCalculator.class;
        due("modifiers", Modifier.toString(face.getModifiers()), "public final");
        TreeSet<String> seen = new TreeSet<>();
        for (Constructor<?> member : face.getDeclaredConstructors()) {
            if (isSeen(member)) {
                seen.add(member.toGenericString());
            }
        }
        for (Method member : face.getDeclaredMethods()) {
            if (isSeen(member)) {
                seen.add(member.toGenericString());
            }
        }
        for (Field member : face.getDeclaredFields()) {
            if (isSeen(member)) {
                seen.add(member.toGenericString());
            }
        }
        String state = "java.lang.IllegalStateException";
        String argument = "java.lang.IllegalArgumentException";
        String index = "java.lang.IndexOutOfBoundsException";
        String name = "BigCalculator.";
        due("the face", seen, new TreeSet<>(Arrays.asList(
                "public static final int BigCalculator.NONE",
                "public BigCalculator()",
                "public int " + name + "feed(int,int) throws " + argument,
                "public int " + name + "compile()",
                "public void " + name + "set(int,long) throws " + argument,
                "public void " + name + "keep(int) throws " + argument + "," + state,
                "public void " + name + "restart() throws " + state,
                "public int " + name + "run(int) throws " + state + "," + argument,
                "public int " + name + "sign() throws " + state,
                "public long " + name + "limb(int) throws " + state + "," + index,
                "public int " + name + "digit(int) throws " + state + "," + index,
                "public int " + name + "compare(int) throws " + argument + "," + state,
                "public int " + name + "count(int)")));
        due("classes inside that are public or not static", Arrays.stream(face.getDeclaredClasses())
                .filter(c -> Modifier.isPublic(c.getModifiers()) || !Modifier.isStatic(c.getModifiers())).count(), 0L);
    }

    /** Of LANGUAGE.md: no private method has the name of a public one, and static fields are final. */
    private static void theRules() {
        TreeSet<String> names = new TreeSet<>();
        for (Method method : BigCalculator.class.getMethods()) {
            if (method.getDeclaringClass() == BigCalculator.class) {
                names.add(method.getName());
            }
        }
        List<Class<?>> classes = new ArrayList<>(Arrays.asList(BigCalculator.class.getDeclaredClasses()));
        classes.add(BigCalculator.class);
        due("more than twelve classes", classes.size() > 12, false);
        for (Class<?> each : classes) {
            for (Method method : each.getDeclaredMethods()) {
                boolean named = !Modifier.isPublic(method.getModifiers()) && names.contains(method.getName());
                due(each.getName() + "." + method.getName() + " with a public one's name", named, false);
                due("more than seven parameters of " + method, method.getParameterCount() > 7, false);
            }
            for (Field field : each.getDeclaredFields()) {
                boolean loose = Modifier.isStatic(field.getModifiers()) && !Modifier.isFinal(field.getModifiers());
                due("static and not final: " + field, loose, false);
            }
        }
    }

    private static long allocated() {
        com.sun.management.ThreadMXBean threads =
                (com.sun.management.ThreadMXBean) ManagementFactory.getThreadMXBean();
        return threads.getCurrentThreadAllocatedBytes();
    }

    private static final int[] EXPRESSION = {
        13, 8, 1, 7, 0, 10, 11, 8, 1, 2, 0, 10, 1, 9, 10, 12, 8, 1, 4, 1, 9, 2, 0, 9, 5, 0, 6, 3, 0
    };

    private static long allCalls(BigCalculator x) {
        for (int kind : EXPRESSION) {
            x.feed(kind, kind == 0 ? 3 : 0);
        }
        long sum = x.compile() + x.run(5) + x.run(10000);
        x.set(0, Long.MIN_VALUE);
        x.restart();
        sum += x.run(10000) + x.sign() + x.limb(0) + x.digit(5) + x.compare(0);
        x.keep(3);
        for (int what = -1; what <= 8; what++) {
            sum += x.count(what);
        }
        return sum;
    }

    private static void theRoom() {
        BigCalculator x = new BigCalculator();
        long sum = 0;
        for (int i = 0; i < 20; i++) {
            sum += allCalls(x);
        }
        allocated();
        long before = allocated();
        for (int i = 0; i < 1000; i++) {
            sum += allCalls(x);
        }
        long made = allocated() - before;
        // The reading itself may make a little; a single object a round would make 16,000.
        due("room is taken by calls (" + sum + "), " + made + " bytes: too much", made > 8000, false);
        before = allocated();
        new BigCalculator();
        long size = allocated() - before;
        due("a new object of " + size + " bytes is too large", size > 40000, false);
    }
}
