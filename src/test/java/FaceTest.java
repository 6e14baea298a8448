import java.lang.reflect.Constructor;
import java.lang.reflect.Field;
import java.lang.reflect.Method;
import java.lang.reflect.Modifier;
import java.util.ArrayList;
import java.util.Arrays;
import java.util.List;
import java.util.TreeSet;

/** The class has the document's face, and no member beside it that another class could see. */
public final class FaceTest {
    private static final String[] FACE = {
        "public void size(int,int,int) throws IllegalArgumentException",
        "public void point(int,int,int) throws IllegalArgumentException",
        "public void root(int,int) throws IllegalArgumentException",
        "public void rules(int,int) throws IllegalArgumentException",
        "public int find(int) throws IllegalArgumentException",
        "public int act(int) throws IndexOutOfBoundsException",
        "public int play(int) throws IllegalArgumentException,IllegalStateException",
        "public int again()",
        "public boolean broken(int) throws IllegalArgumentException",
        "public int colour(int) throws IllegalArgumentException",
        "public int field(int,int) throws IllegalArgumentException",
        "public int has(int) throws IllegalArgumentException",
        "public int count(int) throws IllegalArgumentException",
    };

    private static int wrong = 0;

    private static void must(boolean holds, String what) {
        if (!holds) {
            wrong++;
            System.out.println("not so: " + what);
        }
    }

    private static String names(Class<?>[] types) {
        List<String> names = new ArrayList<>();
        for (Class<?> type : types) {
            names.add(type.getSimpleName());
        }
        return String.join(",", names);
    }

    private static String written(Method m) {
        String thrown = names(m.getExceptionTypes());
        return Modifier.toString(m.getModifiers()) + " " + m.getReturnType().getSimpleName() + " "
            + m.getName() + "(" + names(m.getParameterTypes()) + ")"
            + (thrown.isEmpty() ? "" : " throws " + thrown);
    }

    public static void main(String[] args) {
        Class<?> face = ColourTrier.class;
        must(Modifier.isPublic(face.getModifiers()) && Modifier.isFinal(face.getModifiers()),
            "the class is public and final");
        must(face.getSuperclass() == Object.class && face.getInterfaces().length == 0,
            "it extends and implements nothing that would add to the face");
        Constructor<?>[] constructors = face.getDeclaredConstructors();
        must(constructors.length == 1 && Modifier.isPublic(constructors[0].getModifiers())
            && constructors[0].getParameterCount() == 0
            && constructors[0].getExceptionTypes().length == 0, "one public constructor, without arguments");
        TreeSet<String> due = new TreeSet<>(Arrays.asList(FACE));
        TreeSet<String> seen = new TreeSet<>();
        TreeSet<String> faceNames = new TreeSet<>();
        for (Method m : face.getDeclaredMethods()) {
            if (!Modifier.isPrivate(m.getModifiers())) {
                seen.add(written(m));
                faceNames.add(m.getName());
            }
        }
        must(seen.equals(due), "the face is " + due + " and not " + seen);
        for (Method m : face.getDeclaredMethods()) {
            must(!Modifier.isPrivate(m.getModifiers()) || !faceNames.contains(m.getName()),
                "private " + m.getName() + " has no name of the face");
        }
        for (Field f : face.getDeclaredFields()) {
            must(Modifier.isPrivate(f.getModifiers()), f.getName() + " is private");
            must(!Modifier.isStatic(f.getModifiers()) || Modifier.isFinal(f.getModifiers()),
                f.getName() + " is final if it is static");
        }
        for (Class<?> inside : face.getDeclaredClasses()) {
            must(Modifier.isStatic(inside.getModifiers()) && !Modifier.isPublic(inside.getModifiers())
                && !Modifier.isProtected(inside.getModifiers()), inside.getName() + " is static and not public");
        }
        System.out.println(wrong == 0 ? "the face is as due" : wrong + " faults in the face");
        if (wrong != 0) {
            System.exit(1);
        }
    }
}
