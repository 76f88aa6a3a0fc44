import java.lang.annotation.ElementType;
import java.lang.annotation.Retention;
import java.lang.annotation.RetentionPolicy;
import java.lang.annotation.Target;
import java.lang.reflect.InvocationTargetException;
import java.lang.reflect.Method;
import java.lang.reflect.Modifier;
import java.util.TreeMap;

/** What the tests of single sentences share: each method that bears a sentence of the document is its test. */
abstract class Sentences {
    static final int PC = 0, SP = 1, SR = 2;
    static final int C = 1, Z = 2, N = 4, GIE = 8, OFF = 16, V = 256, FLAGS = C | Z | N | V;
    static final int MOV = 4, ADD = 5, ADDC = 6, SUBC = 7, SUB = 8, CMP = 9, DADD = 10, BIT = 11,
            BIC = 12, BIS = 13, XOR = 14, AND = 15;
    static final int RRC = 0, SWPB = 1, RRA = 2, SXT = 3, PUSH = 4, CALL = 5;
    static final int RETI = 0x1300, HERE = 0x3FFF;
    static final int CODE = Scene.CODE;
    static final int NONE = LowPowerCpu.NONE;
    static final int[] NO_ADDRESSES = {-1, -2, -65535, -65536, 65536, 65537, 65536 + 0x130, 131071, 131072,
        Integer.MAX_VALUE, Integer.MIN_VALUE, Integer.MIN_VALUE + 1};

    /** Where the document says the sentence, and the sentence, word for word. */
    @Retention(RetentionPolicy.RUNTIME)
    @Target(ElementType.METHOD)
    @interface Says {
        String where();

        String value();

        /** Why 512 calls on an object don't reach the sentence, and what the test holds instead. */
        String outOfReach() default "";
    }

    static void holdAll(Class<?> tests) throws ReflectiveOperationException {
        TreeMap<String, Method> byName = new TreeMap<>();
        for (Method method : tests.getDeclaredMethods()) {
            if (method.isAnnotationPresent(Says.class)) {
                byName.put(method.getName(), method);
            }
        }
        for (Method method : byName.values()) {
            hold(method);
        }
        Bench.finish();
    }

    private static void hold(Method method) throws ReflectiveOperationException {
        Says says = method.getAnnotation(Says.class);
        String name = says.where() + ": \"" + says.value() + "\" (" + method.getName() + ")";
        int asked = Bench.askedSoFar();
        Bench.about(name);
        if (!Modifier.isStatic(method.getModifiers())) {
            throw new IllegalStateException(method + " is not static");
        }
        try {
            method.invoke(null);
        } catch (InvocationTargetException e) {
            throw new IllegalStateException(name, e.getCause());
        }
        int answers = Bench.askedSoFar() - asked;
        Bench.due("the test asks something", answers > 0, true);
        System.out.println(name + " " + answers + " answers" + (says.outOfReach().isEmpty() ? "" : "; " + says.outOfReach()));
    }

    static int two(int operation, int way, int s, int memory, int d) {
        return Bench.two(operation, way, s, memory, d);
    }

    static int one(int operation, int way, int s) {
        return Bench.one(operation, way, s);
    }

    static int b(int word) {
        return Bench.b(word);
    }

    static Scene scene() {
        return new Scene();
    }

    static String hex(int value) {
        return Integer.toHexString(value);
    }

    static void due(String what, long got, long want) {
        Bench.due(what, got, want);
    }

    static void due(String what, boolean got, boolean want) {
        Bench.due(what, got, want);
    }

    /** A computer in the midst of its work, so that whatever a refused call touched would show. */
    static Scene busy() {
        return scene().set(SP, 0x400).set(4, 0x1234).set(15, 0xFFFF).set(SR, 0x0107)
                .code(two(MOV, 0, 4, 1, 2), 0x0134, two(MOV, 0, 4, 1, 2), 0x0138, two(ADD, 0, 15, 0, 4))
                .word(0x0000, 0x1211).word(0x012E, 0x1413).word(0x0140, 0x1615).word(0x7FFE, 0x1817)
                .word(0x8000, 0x1A19).word(0xFFFE, 0x1C1B)
                .then(Computer::step).then(Computer::step).word(0x013E, 0x5566).raise(0, 6, 13);
    }

    /** x in R4, y in R5, and the operation from the one to the other. */
    static void twoParts(int operation, boolean bytes, int before, int x, int y, int result, int after) {
        int word = two(operation, 0, 4, 0, 5);
        scene().set(4, x).set(5, y).set(SR, before).code(bytes ? b(word) : word)
                .step(0, "PC=1002" + changed("SR", before, after) + changed("R5", y, result) + " cycles+1");
    }

    /** x in R5, and the operation on it. */
    static void onePart(int operation, boolean bytes, int before, int x, int result, int after) {
        int word = one(operation, 0, 5);
        scene().set(5, x).set(SR, before).code(bytes ? b(word) : word)
                .step(0, "PC=1002" + changed("SR", before, after) + changed("R5", x, result) + " cycles+1");
    }

    static String changed(String name, int before, int after) {
        return before == after ? "" : " " + name + "=" + hex(after);
    }
}
