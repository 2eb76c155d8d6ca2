import java.lang.reflect.Constructor;
import java.lang.reflect.Field;
import java.lang.reflect.Member;
import java.lang.reflect.Method;
import java.lang.reflect.Modifier;
import java.util.Arrays;
import java.util.TreeSet;

/** The public face, and rule 1 of the language: nothing else of the class is to be seen. */
public final class FaceTest {
    private static final String A = " IllegalArgumentException";
    private static final String S = " IllegalStateException";

    private static final String[] METHODS = {
        "int begin()", "int read(int)", "int point(int,int)" + A + S, "int advance()" + S, "int make(int,int)",
        "int disc(int)" + A + S, "int stitch(int,int)" + A + S, "int file(int,int,int)", "int makes()", "int lay(int)",
        "int take(int)", "int turn(int,int)", "int side(int)", "int sideless()", "int hem(int,int)" + A + S,
        "int fed(int,int)" + S, "int meets()", "int feeds(int,int)", "int judge(int,int)", "int cloth(int,int)",
        "int tensions(int,int)", "int lock()", "int tune(int)", "int wind(int,int)", "int step(int,int)",
        "int stepless()", "int sew()", "int seam(int)" + A + S, "int sewn(int,int)" + A + S, "int thread(int)",
        "int names(int,int)", "int name(int,int,int)", "int wear(int)", "int outcome(int,int)", "int note(int,int)",
        "int noteless()", "int left(int)", "int state(int,int)", "int best(int)", "int share(int,int)",
        "int hunt(int,int,int)", "int tape(int,int,int)", "int keep(int)", "int back(int)", "int toss(int)",
        "int clear(int)", "int put(int,int,long)", "long at(int,int)" + A + S, "int copy(int,int,int,int,int)",
        "int count(int)",
    };

    private static final String[] CONSTANTS = {
        "NONE -1", "FULL -2", "BARE -3", "UNABLE -4", "HOLDS 9999", "NOTHING -11", "CAST -12", "PLACE -13", "SIZE -14",
        "THROWN -15",
    };

    public static void main(String[] args) throws IllegalAccessException {
        Due.same("the class", Modifier.toString(CamStitch.class.getModifiers()), "public final");
        Due.same("methods", methods(), new TreeSet<>(Arrays.asList(METHODS)));
        Due.same("constants", constants(), new TreeSet<>(Arrays.asList(CONSTANTS)));
        Constructor<?>[] made = CamStitch.class.getDeclaredConstructors();
        Due.due("constructors", made.length, 1);
        Due.same("the constructor", made[0].toString(), "public CamStitch()");
        privateOthers();
        Due.end("FaceTest");
    }

    private static TreeSet<String> methods() {
        TreeSet<String> methods = new TreeSet<>();
        for (Method m : CamStitch.class.getDeclaredMethods()) {
            if (Modifier.isPublic(m.getModifiers())) {
                StringBuilder words = new StringBuilder(m.getReturnType() + " " + m.getName() + "(");
                for (int i = 0; i < m.getParameterCount(); i++) {
                    words.append(i == 0 ? "" : ",").append(m.getParameterTypes()[i]);
                }
                words.append(")");
                for (Class<?> thrown : m.getExceptionTypes()) {
                    words.append(" ").append(thrown.getSimpleName());
                }
                methods.add(words.toString());
            }
        }
        return methods;
    }

    private static TreeSet<String> constants() throws IllegalAccessException {
        TreeSet<String> constants = new TreeSet<>();
        for (Field f : CamStitch.class.getDeclaredFields()) {
            if (Modifier.isPublic(f.getModifiers())) {
                Due.same(f.getName(), Modifier.toString(f.getModifiers()) + " " + f.getType(), "public static final int");
                constants.add(f.getName() + " " + f.getInt(null));
            }
        }
        return constants;
    }

    private static void privateOthers() {
        TreeSet<String> names = new TreeSet<>();
        for (Method m : CamStitch.class.getDeclaredMethods()) {
            if (Modifier.isPublic(m.getModifiers())) {
                names.add(m.getName());
            }
        }
        for (Method m : CamStitch.class.getDeclaredMethods()) {
            boolean isSeen = seen(m);
            Due.same("private: " + m.getName(), isSeen, Modifier.isPublic(m.getModifiers()));
            Due.same("its own name: " + m.getName(), !isSeen && names.contains(m.getName()), false);
        }
        for (Field f : CamStitch.class.getDeclaredFields()) {
            Due.same("private: " + f.getName(), seen(f), Modifier.isPublic(f.getModifiers()));
        }
        Due.same("at most twelve classes", CamStitch.class.getDeclaredClasses().length <= 11, true);
        for (Class<?> c : CamStitch.class.getDeclaredClasses()) {
            int modifiers = c.getModifiers();
            Due.same("static: " + c, Modifier.isStatic(modifiers) && !Modifier.isPublic(modifiers), true);
        }
    }

    private static boolean seen(Member member) {
        return !Modifier.isPrivate(member.getModifiers());
    }
}
