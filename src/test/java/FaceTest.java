import java.lang.reflect.Field;
import java.lang.reflect.Member;
import java.lang.reflect.Method;
import java.lang.reflect.Modifier;
import java.util.Arrays;
import java.util.TreeSet;

/** The class shows the document's face and nothing beside it (rules 1 and 5 of LANGUAGE.md). */
public final class FaceTest {
    private static final String[] FACE = {
        "public static final int RetiredTimer.NONE",
        "public RetiredTimer()",
        "public boolean RetiredTimer.entry(int,int)",
        "public int RetiredTimer.steps(int)",
        "public int RetiredTimer.take()",
        "public void RetiredTimer.back()",
        "public void RetiredTimer.mode(int)",
        "public void RetiredTimer.mask(int)",
        "public void RetiredTimer.timer(int,boolean,boolean)",
        "public void RetiredTimer.count(int)",
        "public void RetiredTimer.reset()",
        "public int RetiredTimer.until()",
        "public int RetiredTimer.linesAt(int)",
        "public int RetiredTimer.entryOf(int,boolean)",
        "public int RetiredTimer.look(int)",
    };

    private static int wrong = 0;

    public static void main(String[] args) {
        Class<?> face = RetiredTimer.class;
        check(Modifier.isPublic(face.getModifiers()) && Modifier.isFinal(face.getModifiers()), "public and final");
        TreeSet<String> open = new TreeSet<>();
        TreeSet<String> openNames = new TreeSet<>();
        addOpen(open, openNames, face.getDeclaredFields());
        addOpen(open, openNames, face.getDeclaredConstructors());
        addOpen(open, openNames, face.getDeclaredMethods());
        TreeSet<String> want = new TreeSet<>(Arrays.asList(FACE));
        check(open.equals(want), "the face is " + open);
        for (Method method : face.getDeclaredMethods()) {
            boolean hidden = Modifier.isPrivate(method.getModifiers());
            check(!hidden || !openNames.contains(method.getName()), "private and public: " + method.getName());
        }
        for (Field field : face.getDeclaredFields()) {
            int modifiers = field.getModifiers();
            check(!Modifier.isStatic(modifiers) || Modifier.isFinal(modifiers), "static and final: " + field);
        }
        System.out.println(wrong == 0 ? "the face is as due" : wrong + " things are not as due");
        if (wrong != 0) {
            System.exit(1);
        }
    }

    private static void addOpen(TreeSet<String> open, TreeSet<String> names, Member[] members) {
        for (Member member : members) {
            if (!Modifier.isPrivate(member.getModifiers())) {
                open.add(member.toString());
                names.add(member.getName());
            }
        }
    }

    private static void check(boolean right, String what) {
        if (!right) {
            wrong++;
            System.out.println("not as due: " + what);
        }
    }
}
