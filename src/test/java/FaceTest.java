import java.lang.reflect.Constructor;
import java.lang.reflect.Field;
import java.lang.reflect.Method;
import java.lang.reflect.Modifier;
import java.util.ArrayList;
import java.util.Arrays;
import java.util.Collections;
import java.util.List;

/** The face of the class is that of the document, and nothing of it can be seen beside that. */
public final class FaceTest {
    private static final String[] FACE = {
        "int letter 5", "int of 2", "int change 3", "int law 2", "int go 1", "int now 1", "int fits 0", "int span 3",
        "int sure 1", "int below 1", "int widest 0", "int unknown 0", "int can 3", "int when 0", "int ahead 1",
        "int known 2", "int agree 1", "int strike 0", "int strikes 0", "int implied 0", "int suspects 0",
        "int dearest 0", "int merge 2", "int kinds 1", "int days 1", "int fewest 1", "int tight 0", "int loses 1",
        "long odds 2", "int seed 1", "int feed 2", "int wipe 0", "int text 0", "int hold 2", "int as 2",
        "int sheet 3", "int write 3", "int copy 5", "int load 1", "int judge 1", "int maps 1", "int image 0",
        "int undo 0", "int tear 0", "int count 1", "int status 1"};

    private static int wrong = 0;

    private static void check(String what, boolean holds) {
        if (!holds) {
            wrong++;
            System.out.println("face: " + what);
        }
    }

    private static boolean takesInts(Class<?>[] types) {
        for (Class<?> type : types) {
            if (type != int.class) {
                return false;
            }
        }
        return true;
    }

    public static void main(String[] args) {
        Class<?> face = FarPost.class;
        check("public and final", Modifier.isPublic(face.getModifiers()) && Modifier.isFinal(face.getModifiers()));
        Constructor<?>[] made = face.getDeclaredConstructors();
        check("one public constructor without arguments",
            made.length == 1 && Modifier.isPublic(made[0].getModifiers()) && made[0].getParameterCount() == 0);
        List<String> seen = new ArrayList<>();
        List<String> names = new ArrayList<>();
        for (Method m : face.getDeclaredMethods()) {
            if (Modifier.isPublic(m.getModifiers())) {
                seen.add(m.getReturnType() + " " + m.getName() + " " + m.getParameterCount());
                names.add(m.getName());
                check(m.getName() + " takes ints and isn't static",
                    takesInts(m.getParameterTypes()) && !Modifier.isStatic(m.getModifiers()));
            } else {
                check(m.getName() + " is private", Modifier.isPrivate(m.getModifiers()));
            }
        }
        List<String> due = new ArrayList<>(Arrays.asList(FACE));
        Collections.sort(due);
        Collections.sort(seen);
        check("public methods are " + seen + ", due are " + due, seen.equals(due));
        for (Method m : face.getDeclaredMethods()) {
            check(m.getName() + " bears the name of a public method",
                Modifier.isPublic(m.getModifiers()) || !names.contains(m.getName()));
        }
        for (Field f : face.getDeclaredFields()) {
            check(f.getName() + " is private", Modifier.isPrivate(f.getModifiers()));
            check(f.getName() + ": static state", !Modifier.isStatic(f.getModifiers()) || Modifier.isFinal(f.getModifiers()));
        }
        for (Class<?> inside : face.getDeclaredClasses()) {
            check(inside.getName() + " is static, and not public",
                Modifier.isStatic(inside.getModifiers()) && !Modifier.isPublic(inside.getModifiers())
                    && !Modifier.isProtected(inside.getModifiers()));
            for (Method m : inside.getDeclaredMethods()) {
                check(inside.getName() + "." + m.getName() + " bears the name of a public method",
                    !names.contains(m.getName()));
            }
        }
        System.out.println(wrong == 0 ? "all answers are as due" : wrong + " answers are not as due");
        if (wrong != 0) {
            System.exit(1);
        }
    }
}
