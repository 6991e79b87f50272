import java.lang.reflect.Constructor;
import java.lang.reflect.Field;
import java.lang.reflect.Method;
import java.lang.reflect.Modifier;
import java.util.Arrays;
import java.util.TreeSet;

/** The face is the document's and no more; promise 1. */
public final class FaceTest {
    private static final String[] FACE = {
        "int feed(int,int,int,int,int)", "boolean end(int)", "boolean anew(int,int)", "int segment(int,int)",
        "boolean fill(int,int)", "int section(int,int,int)", "int symbol(int,int)", "int imports(int,boolean)",
        "boolean rebase(int,int,long,int)", "boolean bind(int,int,int,int)", "boolean drop(int,int)", "int write()",
        "int image(int)", "boolean damage(int,int)", "boolean cut(int)", "boolean export(int,int)", "int load(int)",
        "int place()", "int memory(int)", "long pointer(int)", "long visit(int,int)", "int find()", "int count(int)"
    };

    public static void main(String[] args) {
        Probe t = new Probe("face");
        t.due("NONE", ChainLoader.NONE, -1);
        t.due("the class is public and final", ChainLoader.class.getModifiers(), Modifier.PUBLIC | Modifier.FINAL);
        TreeSet<String> found = new TreeSet<>();
        for (Method m : ChainLoader.class.getDeclaredMethods()) {
            if (!Modifier.isPrivate(m.getModifiers()) && !m.isSynthetic()) {
                StringBuilder text = new StringBuilder(m.getReturnType() + " " + m.getName() + "(");
                for (Class<?> p : m.getParameterTypes()) {
                    text.append(text.charAt(text.length() - 1) == '(' ? "" : ",").append(p);
                }
                found.add(text + ")");
            }
        }
        t.due("the methods are those of the document", found.equals(new TreeSet<>(Arrays.asList(FACE))), true);
        for (Field f : ChainLoader.class.getDeclaredFields()) {
            boolean open = !Modifier.isPrivate(f.getModifiers());
            t.due("field " + f.getName() + " is open", open, f.getName().equals("NONE"));
        }
        for (Constructor<?> c : ChainLoader.class.getDeclaredConstructors()) {
            t.due("constructor's parameters", c.getParameterCount(), 0);
        }
        newObject();
        newObjectsShareNothing();
        fiveHundredAndTwelveCalls();
        Probe.finish();
    }

    private static void newObject() {
        Probe t = new Probe("promise 1: BASE 65536, PAGE 256, nothing told, an empty IMAGE, nothing loaded");
        t.dueCounts(0, 0, 0, 0, 0, 0, 0, 0, 0, 0, 0, -1);
        t.due("count(-1)", t.x.count(-1), -1);
        t.due("place()", t.x.place(), -1);
        t.due("image(0)", t.x.image(0), -1);
        t.due("memory(65536)", t.x.memory(65536), -1);
        t.due("find()", t.x.find(), -1);
        t.dueNoPointer(65536);
        t.dueNoVisit(0, 0);
        t.due("segment", t.segment("a", 300, 0), 0);
        t.x.write();
        t.dueNumber("BASE", 56, 8, 65536);
        t.dueNumber("SPAN, so PAGE", 64, 8, 512);
    }

    private static void newObjectsShareNothing() {
        Probe other = Images.rich("promise 1: another object");
        other.dueLoad(0, 0, -1);
        other.x.feed(1, 2, 3, 4, 5);
        other.x.damage(0, 0);
        other.dueLoad(0, 2, 0);
        Probe t = new Probe("promise 1: nothing of another object");
        t.dueCounts(0, 0, 0, 0, 0, 0, 0, 0, 0, 0, 0, -1);
        t.due("place()", t.x.place(), -1);
        t.dueMemory(65536, -1);
        other.dueCounts(2, 3, 2, 2, 5, 1228, 1, 2, 5, 2, 20, -1);
    }

    private static void fiveHundredAndTwelveCalls() {
        Probe t = Images.rich("at most 512 calls");
        t.dueLoad(0, 0, -1);
        while (t.x.calls() < Counted.MOST_CALLS - 2) {
            t.dueMemory(65536, 112);
        }
        t.due("the 511th, load(0)", t.x.load(3), 0);
        t.dueMemory(65539, 115);
        t.due("calls", t.x.calls(), Counted.MOST_CALLS);
    }
}
