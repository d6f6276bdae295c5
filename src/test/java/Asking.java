import java.lang.annotation.ElementType;
import java.lang.annotation.Retention;
import java.lang.annotation.RetentionPolicy;
import java.lang.annotation.Target;
import java.lang.reflect.InvocationTargetException;
import java.lang.reflect.Method;
import java.lang.reflect.Modifier;
import java.util.ArrayList;
import java.util.Comparator;
import java.util.List;
import java.util.concurrent.Callable;

/**
 * What the tests share: running each test of a class by itself, asking a call and comparing its answer with the one
 * that is due, and houses that stand ready. A test is a static method without parameters that answers nothing.
 */
abstract class Asking {
    static final String INDEX = "IndexOutOfBoundsException";
    static final String ARGUMENT = "IllegalArgumentException";
    static final String STATE = "IllegalStateException";
    static final String REFUSED = "UnsupportedOperationException";
    static final String NONE = "NoSuchElementException";
    static final String ARITHMETIC = "ArithmeticException";

    static final int DUST = 0;
    static final int BROKEN = 1;
    static final int TIPS = 2;

    private static final int MOST_COMPLAINTS = 3;
    /** Far more than all tests of a class need. */
    private static final long MOST_MILLISECONDS = 300_000;

    private static int wrong = 0;
    private static int asked = 0;
    private static Method running = null;
    /** How many complaints the running test has made; the first of them tell enough. */
    private static int complaints = 0;

    /** The sentence of the document that a test is about, and its promise: 0 for the section "Terms". */
    @Retention(RetentionPolicy.RUNTIME)
    @Target(ElementType.METHOD)
    @interface Says {
        int promise() default 0;

        String value();
    }

    interface IntCall {
        Object with(int value) throws Exception;
    }

    interface HouseCall {
        Object on(TeaChests x) throws Exception;
    }

    interface ChestCall {
        Object on(TeaChests x, int chest) throws Exception;
    }

    // ---- running

    /** A call that does not end fails the test, too. */
    static void watch() {
        Thread watcher = new Thread(() -> {
            try {
                Thread.sleep(MOST_MILLISECONDS);
            } catch (InterruptedException e) {
                return;
            }
            System.out.println("a call does not end");
            Runtime.getRuntime().halt(1);
        });
        watcher.setDaemon(true);
        watcher.start();
    }

    static void run(Class<?> tests) {
        watch();
        List<Method> methods = new ArrayList<>();
        for (Method method : tests.getDeclaredMethods()) {
            boolean isTest = Modifier.isStatic(method.getModifiers()) && !method.isSynthetic()
                    && method.getParameterCount() == 0 && method.getReturnType() == void.class;
            if (isTest) {
                methods.add(method);
            }
        }
        methods.sort(Comparator.comparing(Method::getName));
        for (Method method : methods) {
            runOne(method);
        }
        System.out.println(methods.size() + " tests: " + (asked - wrong) + " answers as due, " + wrong + " not");
        if (wrong != 0 || methods.isEmpty()) {
            System.exit(1);
        }
    }

    private static void runOne(Method method) {
        running = method;
        complaints = 0;
        int askedBefore = asked;
        try {
            method.setAccessible(true);
            method.invoke(null);
        } catch (InvocationTargetException e) {
            complain("it ended with " + e.getCause());
        } catch (IllegalAccessException e) {
            complain("it cannot be called");
        }
        if (asked == askedBefore) {
            complain("it asks nothing");
        }
    }

    private static void complain(String why) {
        wrong++;
        complaints++;
        if (complaints > MOST_COMPLAINTS) {
            return;
        }
        System.out.println(running.getName() + lineOfTest() + ": " + why);
        Says says = running.getAnnotation(Says.class);
        if (says != null) {
            System.out.println("    promise " + says.promise() + ": \"" + says.value() + "\"");
        }
    }

    private static String lineOfTest() {
        for (StackTraceElement element : new Throwable().getStackTrace()) {
            if (element.getMethodName().equals(running.getName())) {
                return ", line " + element.getLineNumber();
            }
        }
        return "";
    }

    // ---- asking

    /** The answer as a text, or the name of the exception. */
    static String answer(Callable<?> call) {
        try {
            return String.valueOf(call.call());
        } catch (Exception e) {
            return e.getClass().getSimpleName();
        }
    }

    static void due(Object want, Callable<?> call) {
        asked++;
        String got = answer(call);
        if (!got.equals(String.valueOf(want))) {
            complain("answered " + got + ", due is " + want);
        }
    }

    /** The call is refused for this reason, with this detail; nothing else changes by it, but maybe the buffer. */
    static void refused(TeaChests x, int reason, int detail, Callable<?> call) {
        String before = picture(x) + x.account(17);
        due(REFUSED, call);
        due(reason, () -> x.reason(false));
        due(detail, () -> x.reason(true));
        due(before, () -> picture(x) + x.account(17));
    }

    /** The call throws this, and nothing at all changes by it. */
    static void thrown(String want, TeaChests x, Callable<?> call) {
        String before = whole(x);
        due(want, call);
        due(before, () -> whole(x));
    }

    /** The values next to a range, and those that are farthest from it, are thrown back. */
    static void outside(String want, TeaChests x, int least, int most, IntCall call) {
        for (int value : new int[] {least - 1, most + 1, Integer.MIN_VALUE, Integer.MAX_VALUE, most + 65536, least - 256}) {
            thrown(want, x, () -> call.with(value));
        }
    }

    /** Neither a negative number, nor one that was not made yet, nor one beyond the most that can be made. */
    static void noSuchChest(ChestCall call) {
        TeaChests none = new TeaChests();
        thrown(INDEX, none, () -> call.on(none, 0));
        TeaChests x = everywhere();
        for (int chest : new int[] {-1, 4, 19, 20, 99, 256, Integer.MIN_VALUE, Integer.MAX_VALUE}) {
            thrown(INDEX, x, () -> call.on(x, chest));
        }
        // A chest whose making was taken back is there no more.
        x.make(1);
        x.undo();
        thrown(INDEX, x, () -> call.on(x, 4));
        while (x.account(8) < 20) {
            x.make(1);
        }
        thrown(INDEX, x, () -> call.on(x, 20));
    }

    // ---- looking

    static String labelOf(TeaChests x, int chest) {
        StringBuilder label = new StringBuilder();
        for (int i = 0; i < x.chest(chest, 9); i++) {
            label.append(x.labelled(chest, i));
        }
        return label.toString();
    }

    /** All that can be asked about an object, but for its buffer, its reason and its changes. */
    static String picture(TeaChests x) {
        StringBuilder all = new StringBuilder();
        for (int what = 0; what <= 15; what++) {
            all.append(x.account(what)).append(' ');
        }
        for (int garden = 0; garden < 6; garden++) {
            for (int kind = 0; kind < 3; kind++) {
                all.append(x.leaves(garden, kind)).append(' ');
            }
        }
        for (int chest = 0; chest < x.account(8); chest++) {
            for (int what = 0; what <= 9; what++) {
                all.append(x.chest(chest, what)).append(' ');
            }
            all.append(labelOf(x, chest)).append('|');
        }
        return all.toString();
    }

    static String whole(TeaChests x) {
        return picture(x) + x.account(16) + ' ' + x.account(17) + ' ' + answer(() -> x.reason(false)) + ' '
                + answer(() -> x.reason(true));
    }

    // ---- texts

    static void feed(TeaChests x, String text) {
        for (char letter : text.toCharArray()) {
            x.feed(letter);
        }
    }

    static int perform(TeaChests x, String text) {
        feed(x, text);
        return x.perform();
    }

    // ---- houses and chests that stand ready

    /** A house with sheets and screws enough, and 300 pounds of each kind of garden 1. */
    static TeaChests stocked() {
        TeaChests x = new TeaChests();
        for (int i = 0; i < 3; i++) {
            x.buy(true, 99);
            x.buy(false, 99);
        }
        x.bring(1, DUST, 300);
        x.bring(1, BROKEN, 300);
        x.bring(1, TIPS, 300);
        return x;
    }

    static int filled(TeaChests x, int size, int kind, int pounds) {
        int chest = x.make(size);
        x.fill(chest, 1, kind, pounds);
        return chest;
    }

    /** Lines and screws a chest with leaves that is neither, labels it, and brings it to the quay. */
    static void finish(TeaChests x, int chest) {
        x.line(chest);
        x.screw(chest, x.chest(chest, 0) + 2);
        x.label(chest);
        x.toQuay(chest);
    }

    /** Makes a chest that is lined, filled, screwed tight, and labelled. */
    static int ready(TeaChests x, int size, int kind, int pounds) {
        int chest = filled(x, size, kind, pounds);
        x.line(chest);
        x.screw(chest, size + 2);
        x.label(chest);
        return chest;
    }

    static int onQuay(TeaChests x, int size, int kind, int pounds) {
        int chest = ready(x, size, kind, pounds);
        x.toQuay(chest);
        return chest;
    }

    static int onShip(TeaChests x, int size, int kind, int pounds) {
        int chest = onQuay(x, size, kind, pounds);
        x.load(chest);
        return chest;
    }

    static int gone(TeaChests x, int size, int kind, int pounds) {
        int chest = onShip(x, size, kind, pounds);
        x.sail();
        return chest;
    }

    /** A house with the chests 0 to 3: in the house, on the quay, on the ship, and gone. All are tight and labelled. */
    static TeaChests everywhere() {
        TeaChests x = stocked();
        ready(x, 2, TIPS, 15);
        onQuay(x, 3, BROKEN, 25);
        int later = onQuay(x, 4, DUST, 35);
        gone(x, 5, TIPS, 45);
        x.load(later);
        return x;
    }
}
