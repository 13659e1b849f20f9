import java.lang.reflect.Constructor;
import java.lang.reflect.Field;
import java.lang.reflect.Method;
import java.lang.reflect.Modifier;
import java.util.Arrays;
import java.util.Set;
import java.util.TreeSet;

/** The public face is the document's, and nothing else can be seen from outside (LANGUAGE.md, rules 1, 2, 5). */
public final class FaceTest {
    private static final String[] FACE = {
        "int candle(int,int,int,int,int)", "int draught(int,int)", "int purse(int,int)", "int matches(int)",
        "int say(int)", "int wipe()", "int fault()", "int judge(int)", "int done()", "int behind(int,int)",
        "int has(int)", "int then(int)", "int lasts(int)", "int joined(int)", "int may(int)", "int net(int)",
        "int round(int,int)", "int accounts(int,int)", "int jubilee(int)", "int trims(int,int)",
        "int seen(int,int)", "int forget()", "int sneezes(int)", "int look(int)", "int snuff(int)",
        "long moths(int,int,int,int)", "long ship(int,int,int,int)", "int year(int,int,int)",
        "int image(int)", "int restore(int)", "int told(int)",
    };
    private static int wrong = 0;

    private static void check(boolean good, String what) {
        if (!good) {
            wrong++;
            System.out.println("wrong: " + what);
        }
    }

    private static String shape(Method m) {
        StringBuilder b = new StringBuilder(m.getReturnType() + " " + m.getName() + "(");
        String gap = "";
        for (Class<?> p : m.getParameterTypes()) {
            b.append(gap).append(p);
            gap = ",";
        }
        return b.append(")").toString();
    }

    private static void methods(Class<?> face) {
        Set<String> due = new TreeSet<>(Arrays.asList(FACE));
        Set<String> names = new TreeSet<>();
        for (Method m : face.getDeclaredMethods()) {
            if (Modifier.isPublic(m.getModifiers())) {
                check(due.remove(shape(m)), "a method that the face has not: " + shape(m));
                check(!Modifier.isStatic(m.getModifiers()), "a static method: " + m.getName());
                check(m.getExceptionTypes().length == 0, "a checked exception: " + m.getName());
                names.add(m.getName());
            } else {
                check(Modifier.isPrivate(m.getModifiers()), "a method that is not private: " + m.getName());
            }
        }
        check(due.isEmpty(), "methods are missing: " + due);
        hiddenNames(face, names);
        for (Class<?> inside : face.getDeclaredClasses()) {
            check(Modifier.isStatic(inside.getModifiers()), "a class inside that is not static: " + inside);
            check(!Modifier.isPublic(inside.getModifiers()), "a class inside that is public: " + inside);
            hiddenNames(inside, names);
        }
    }

    private static void hiddenNames(Class<?> of, Set<String> names) {
        for (Method m : of.getDeclaredMethods()) {
            boolean open = Modifier.isPublic(m.getModifiers());
            check(open || !names.contains(m.getName()), "a hidden method with a name of the face: " + m);
            check(m.getParameterCount() <= 7, "a method of more than seven parameters: " + m);
        }
    }

    private static void fields(Class<?> face) throws IllegalAccessException {
        String[] names = {"NONE", "UNKNOWN", "OUTSIDE", "STATE", "FULL", "NO", "LOST"};
        long[] values = {-6, -1, -2, -3, -4, -5, -1000000000000000000L};
        Set<String> due = new TreeSet<>(Arrays.asList(names));
        for (Field f : face.getDeclaredFields()) {
            int mods = f.getModifiers();
            if (!Modifier.isPrivate(mods)) {
                check(due.remove(f.getName()), "a field that the face has not: " + f);
                check(Modifier.isPublic(mods) && Modifier.isStatic(mods) && Modifier.isFinal(mods), "not a constant: " + f);
                check(f.getType() == (f.getName().equals("LOST") ? long.class : int.class), "the type of " + f);
                int at = Arrays.asList(names).indexOf(f.getName());
                check(at >= 0 && f.getLong(null) == values[at], "the value of " + f);
            }
            check(!Modifier.isStatic(mods) || Modifier.isFinal(mods), "a static field that is not final: " + f);
        }
        check(due.isEmpty(), "constants are missing: " + due);
    }

    public static void main(String[] args) throws IllegalAccessException {
        Class<?> face = CandleDebts.class;
        check(Modifier.isPublic(face.getModifiers()) && Modifier.isFinal(face.getModifiers()), "public and final");
        check(face.getPackageName().isEmpty(), "no package");
        Constructor<?>[] made = face.getDeclaredConstructors();
        check(made.length == 1 && Modifier.isPublic(made[0].getModifiers()) && made[0].getParameterCount() == 0, "one constructor");
        methods(face);
        fields(face);
        if (wrong != 0) {
            System.exit(1);
        }
    }
}
