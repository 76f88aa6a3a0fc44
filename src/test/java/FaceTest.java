import java.lang.reflect.Constructor;
import java.lang.reflect.Field;
import java.lang.reflect.Method;
import java.lang.reflect.Modifier;
import java.util.TreeSet;

/** The class has the document's face and no other member that is not private. */
public final class FaceTest {
    private static final String[] FACE = {
        "public boolean LowPowerCpu.poke(int,int)",
        "public boolean LowPowerCpu.raise(int)",
        "public int LowPowerCpu.cyclesOf()",
        "public int LowPowerCpu.mode()",
        "public int LowPowerCpu.peek(int)",
        "public int LowPowerCpu.pending()",
        "public int LowPowerCpu.reg(int)",
        "public int LowPowerCpu.run(int)",
        "public int LowPowerCpu.step()",
        "public static final int LowPowerCpu.NONE",
        "public void LowPowerCpu.init()",
        "public LowPowerCpu()",
    };

    public static void main(String[] args) {
        TreeSet<String> due = new TreeSet<>(java.util.Arrays.asList(FACE));
        TreeSet<String> found = new TreeSet<>();
        TreeSet<String> open = new TreeSet<>();
        for (Method m : LowPowerCpu.class.getDeclaredMethods()) {
            if (!Modifier.isPrivate(m.getModifiers())) {
                found.add(m.toString());
                open.add(m.getName());
            }
        }
        for (Field f : LowPowerCpu.class.getDeclaredFields()) {
            if (!Modifier.isPrivate(f.getModifiers())) {
                found.add(f.toString());
            }
            if (Modifier.isStatic(f.getModifiers())) {
                Bench.due(f + " is final", Modifier.isFinal(f.getModifiers()), true);
            }
        }
        for (Constructor<?> c : LowPowerCpu.class.getDeclaredConstructors()) {
            found.add(c.toString());
        }
        Bench.due("the face " + found + " is the document's", found.equals(due), true);
        for (Method m : LowPowerCpu.class.getDeclaredMethods()) {
            Bench.due(m + " bears a public name", Modifier.isPrivate(m.getModifiers()) && open.contains(m.getName()), false);
        }
        for (Class<?> inside : LowPowerCpu.class.getDeclaredClasses()) {
            Bench.due(inside + " is static", Modifier.isStatic(inside.getModifiers()), true);
            for (Method m : inside.getDeclaredMethods()) {
                Bench.due(m + " bears a public name", open.contains(m.getName()), false);
            }
        }
        int classModifiers = LowPowerCpu.class.getModifiers();
        Bench.due("public and final", Modifier.isPublic(classModifiers) && Modifier.isFinal(classModifiers), true);
        Bench.due("NONE", LowPowerCpu.NONE, -1);
        Bench.finish();
    }
}
