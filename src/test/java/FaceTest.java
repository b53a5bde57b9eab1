import java.lang.management.ManagementFactory;
import java.lang.reflect.Constructor;
import java.lang.reflect.Field;
import java.lang.reflect.Method;
import java.lang.reflect.Modifier;
import java.util.Arrays;
import java.util.TreeSet;

/** The face of the class as the document tells it, and the room that calls take. */
public final class FaceTest {
    private static final Check CHECK = new Check();
    /** 7.3 million fields and elements of the size of an int. */
    private static final long ROOM_BYTES = 4 * 7_300_000L;
    private static final String[] FACE = {
        "int attach(int, boolean)", "boolean add(int, int)", "int flush(int)", "boolean crash(int)",
        "int report(int)", "int copy(int)", "boolean drop(int)", "int deliver(int)", "int onTheWay()",
        "int total(int)", "long sum(int)", "int extreme(int, boolean)", "int covered(int, int)",
        "int estimate(int, int)", "int top(int, int)", "int digestSize(int)", "int below(int, int, boolean)",
        "int quantile(int, int)",
    };

    private FaceTest() {}

    public static void main(String[] args) {
        members();
        room();
        CHECK.end();
    }

    private static String told(Method method) {
        StringBuilder text = new StringBuilder(method.getReturnType().getName() + " " + method.getName() + "(");
        for (Class<?> type : method.getParameterTypes()) {
            text.append(text.charAt(text.length() - 1) == '(' ? "" : ", ").append(type.getName());
        }
        return text.append(")").toString();
    }

    private static void members() {
        CHECK.at("the face");
        Class<?> tree = TelemetryTree.class;
        CHECK.due("public final", tree.getModifiers(), Modifier.PUBLIC | Modifier.FINAL);
        TreeSet<String> visible = new TreeSet<>();
        for (Method method : tree.getDeclaredMethods()) {
            if (Modifier.isPublic(method.getModifiers())) {
                visible.add(told(method));
            } else {
                CHECK.due(method + " is private", Modifier.isPrivate(method.getModifiers()), true);
            }
        }
        CHECK.due("methods " + visible, visible.equals(new TreeSet<>(Arrays.asList(FACE))), true);
        for (Field field : tree.getDeclaredFields()) {
            CHECK.due(field + " is private", Modifier.isPrivate(field.getModifiers()), true);
        }
        Constructor<?>[] constructors = tree.getDeclaredConstructors();
        CHECK.due("constructors", constructors.length, 1);
        CHECK.due("public", constructors[0].getModifiers(), Modifier.PUBLIC);
        CHECK.due("of two int", Arrays.equals(constructors[0].getParameterTypes(), new Class<?>[] {int.class, int.class}), true);
    }

    /** An object and its 512 calls, the dearest among them, keep far within the room of a run. */
    private static void room() {
        CHECK.at("room");
        if (!(ManagementFactory.getThreadMXBean() instanceof com.sun.management.ThreadMXBean threads)
            || !threads.isThreadAllocatedMemorySupported()) {
            System.out.println("room is not measured on this machine");
            return;
        }
        useForALongRun();
        long before = threads.getCurrentThreadAllocatedBytes();
        use(new TelemetryTree(6, 16));
        long used = threads.getCurrentThreadAllocatedBytes() - before;
        CHECK.due("bytes of an object and 512 calls are within the room: " + used, used < ROOM_BYTES, true);
    }

    /** Classes are loaded and code is compiled before anything is measured. */
    private static void useForALongRun() {
        for (int i = 0; i < 50; i++) {
            use(new TelemetryTree(6, 16));
        }
    }

    private static void use(TelemetryTree tree) {
        for (int leaf = 1; leaf <= 11; leaf++) {
            tree.attach(0, true);
        }
        for (int i = 0; i < 250; i++) {
            tree.add(1 + i % 11, i * 7 % 32);
        }
        for (int i = 0; i < 120; i++) {
            int message = tree.report(1 + i % 11);
            tree.deliver(message);
        }
        for (int p = 0; p < 11; p++) {
            tree.quantile(0, p * 100);
        }
    }
}
