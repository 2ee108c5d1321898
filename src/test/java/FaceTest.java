import java.lang.reflect.Constructor;
import java.lang.reflect.Field;
import java.lang.reflect.Method;
import java.lang.reflect.Modifier;
import java.util.Arrays;
import java.util.Set;
import java.util.TreeSet;

/** The class has the document's face and shows nothing else. */
public final class FaceTest {
    private static final String[] FACE = {
        "public JobNets()",
        "public static final int JobNets.NONE",
        "public void JobNets.sign(int)",
        "public int JobNets.read()",
        "public int JobNets.calendar(int,int)",
        "public int JobNets.holiday(long)",
        "public int JobNets.needs(int,int,int)",
        "public long JobNets.next(int,long)",
        "public int JobNets.plan(long)",
        "public int JobNets.event(int,int,int,long)",
        "public int JobNets.started(int,int)",
        "public int JobNets.rerun(int)",
        "public int JobNets.ring(int)",
        "public int JobNets.critical(int)",
        "public long JobNets.mean(int,int) throws java.lang.ArithmeticException",
        "public int JobNets.late(long,int)",
        "public int JobNets.state(int)",
        "public int JobNets.count(int)",
    };

    private static Set<String> shown() {
        Set<String> shown = new TreeSet<>();
        for (Constructor<?> c : JobNets.class.getDeclaredConstructors()) {
            shown.add(c.toString());
        }
        for (Field f : JobNets.class.getDeclaredFields()) {
            if (!Modifier.isPrivate(f.getModifiers())) {
                shown.add(f.toString());
            }
        }
        for (Method m : JobNets.class.getDeclaredMethods()) {
            if (!Modifier.isPrivate(m.getModifiers())) {
                shown.add(m.toString());
            }
        }
        return shown;
    }

    private static Set<String> methodNames(Class<?> c) {
        Set<String> names = new TreeSet<>();
        for (Method m : c.getDeclaredMethods()) {
            names.add(m.getName());
        }
        return names;
    }

    public static void main(String[] args) {
        boolean right = true;
        Set<String> face = new TreeSet<>(Arrays.asList(FACE));
        Set<String> shown = shown();
        if (!face.equals(shown)) {
            right = false;
            System.out.println("shown: " + shown + "\ndue:   " + face);
        }
        if (!Modifier.isFinal(JobNets.class.getModifiers()) || !Modifier.isPublic(JobNets.class.getModifiers())) {
            right = false;
            System.out.println("the class is not public and final");
        }
        Set<String> taken = new TreeSet<>();
        for (Method m : JobNets.class.getDeclaredMethods()) {
            if (Modifier.isPublic(m.getModifiers())) {
                taken.add(m.getName());
            }
        }
        for (Class<?> inside : JobNets.class.getDeclaredClasses()) {
            Set<String> names = methodNames(inside);
            names.retainAll(taken);
            if (!names.isEmpty()) {
                right = false;
                System.out.println(inside + " uses names of the face: " + names);
            }
        }
        System.out.println(right ? "the face is as due" : "the face is not as due");
        if (!right) {
            System.exit(1);
        }
    }
}
