import java.lang.reflect.Constructor;
import java.lang.reflect.Field;
import java.lang.reflect.Method;
import java.lang.reflect.Modifier;
import java.util.Set;
import java.util.TreeSet;

/** The public face of the document, no more and no less (rules 1, 5 and 10 of LANGUAGE.md). */
public final class FaceTest {
    public static void main(String[] args) {
        Check c = new Check();
        Class<?> face = StreamWire.class;
        c.due("public and final", face.getModifiers(), Modifier.PUBLIC | Modifier.FINAL);
        c.due("no nested class", face.getDeclaredClasses().length, 0);
        Constructor<?>[] constructors = face.getDeclaredConstructors();
        c.due("one constructor", constructors.length, 1);
        c.due("without parameters, public", constructors[0].toString().equals("public StreamWire()") ? 1 : 0, 1);
        methods(c, face);
        fields(c, face);
        c.end();
    }

    private static void methods(Check c, Class<?> face) {
        Set<String> due = Set.of(
            "public int StreamWire.open(int,boolean,int)", "public int StreamWire.write(int,long,int)",
            "public long StreamWire.read(int,int)", "public int StreamWire.close(int)",
            "public int StreamWire.abort(int)", "public int StreamWire.deliver(int,int)",
            "public int StreamWire.drop(int,int)", "public int StreamWire.twice(int,int)",
            "public int StreamWire.forge(int,int,int,int,int,int,int)", "public int StreamWire.tick(int)",
            "public int StreamWire.state(int)", "public int StreamWire.info(int,int)",
            "public int StreamWire.wire(int,int,int)");
        Set<String> there = new TreeSet<>();
        Set<String> names = new TreeSet<>();
        for (Method m : face.getDeclaredMethods()) {
            if (!Modifier.isPrivate(m.getModifiers())) {
                there.add(m.toString());
                names.add(m.getName());
            }
        }
        c.due("the methods " + there, there.equals(new TreeSet<>(due)) ? 1 : 0, 1);
        for (Method m : face.getDeclaredMethods()) {
            boolean hides = Modifier.isPrivate(m.getModifiers()) && names.contains(m.getName());
            c.due("a private method with the name of a public one: " + m, hides ? 1 : 0, 0);
            c.due("at most seven parameters: " + m, m.getParameterCount() <= 7 ? 1 : 0, 1);
        }
    }

    private static void fields(Check c, Class<?> face) {
        int own = 0;
        for (Field f : face.getDeclaredFields()) {
            int m = f.getModifiers();
            boolean constant = f.getName().equals("REFUSED") || f.getName().equals("FULL");
            c.due("visible: " + f, Modifier.isPrivate(m) ? 0 : 1, constant ? 1 : 0);
            if (Modifier.isStatic(m)) {
                c.due("a constant: " + f, f.getType() == int.class && Modifier.isFinal(m) ? 1 : 0, 1);
            } else {
                own++;
            }
        }
        c.due("some forty fields at most, there are " + own, own <= 40 ? 1 : 0, 1);
    }
}
