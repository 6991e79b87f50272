import java.lang.reflect.Constructor;
import java.lang.reflect.Field;
import java.lang.reflect.Method;
import java.lang.reflect.Modifier;
import java.util.Arrays;
import java.util.TreeSet;

/** The face is the document's and no more; promise 1. */
public final class FaceTest {
    private static final String[] FACE = {
        "int feed(int,int,int,int,int)", "boolean end(int)", "boolean anew(int,int)", "int segment(int,int)",
        "boolean fill(int,int)", "int section(int,int,int)", "int symbol(int,int)", "int imports(int,boolean)",
        "boolean rebase(int,int,long,int)", "boolean bind(int,int,int,int)", "boolean drop(int,int)", "int write()",
        "int image(int)", "boolean damage(int,int)", "boolean cut(int)", "boolean export(int,int)", "int load(int)",
        "int place()", "int memory(int)", "long pointer(int)", "long visit(int,int)", "int find()", "int count(int)"
    };

    public static void main(String[] args) {
        Probe t = new Probe("face");
        t.due("NONE", ChainLoader.NONE, -1);
        t.due("the class is public and final", ChainLoader.class.getModifiers(), Modifier.PUBLIC | Modifier.FINAL);
        TreeSet<String> found = new TreeSet<>();
        for (Method m : ChainLoader.class.getDeclaredMethods()) {
            if (!Modifier.isPrivate(m.getModifiers()) && !m.isSynthetic()) {
                StringBuilder text = new StringBuilder(m.getReturnType() + " " + m.getName() + "(");
                for (Class<?> p : m.getParameterTypes()) {
                    text.append(text.charAt(text.length() - 1) == '(' ? "" : ",").append(p);
                }
                found.add(text + ")");
            }
        }
        t.due("the methods are those of the document", found.equals(new TreeSet<>(Arrays.asList(FACE))), true);
        for (Field f : ChainLoader.class.getDeclaredFields()) {
            boolean open = !Modifier.isPrivate(f.getModifiers());
            t.due("field " + f.getName() + " is open", open, f.getName().equals("NONE"));
        }
        for (Constructor<?> c : ChainLoader.class.getDeclaredConstructors()) {
            t.due("constructor's parameters", c.getParameterCount(), 0);
        }
        newObject();
        Probe.finish();
    }

    private static void newObject() {
        Probe t = new Probe("promise 1");
        t.dueCounts(0, 0, 0, 0, 0, 0, 0, 0, 0, 0, 0, -1);
        t.due("count(-1)", t.x.count(-1), -1);
        t.due("place()", t.x.place(), -1);
        t.due("image(0)", t.x.image(0), -1);
        t.due("memory(65536)", t.x.memory(65536), -1);
        t.due("find()", t.x.find(), -1);
        t.dueNoPointer(65536);
        t.dueNoVisit(0, 0);
        t.due("segment", t.segment("a", 300, 0), 0);
        t.x.write();
        t.dueNumber("BASE", 56, 8, 65536);
        t.dueNumber("SPAN, so PAGE", 64, 8, 512);
    }
}
