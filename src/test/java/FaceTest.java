import java.lang.reflect.Constructor;
import java.lang.reflect.Field;
import java.lang.reflect.Method;
import java.lang.reflect.Modifier;
import java.util.TreeSet;

/** The class shows the face of the document, and nothing else that another file could use. */
public final class FaceTest {
    private static final String[] FACE = {
        "int thing(int,int,int,int,int,int)", "int field(int,int,int)", "int need(int,int,int)",
        "int rain(int,boolean)", "int take(int)", "int hire(int)", "int giveUp(int)", "int change(int,int,int)",
        "int back(int)", "int missing(int,int,int)", "int mend(int,int)", "int about(int,int)", "int lack(int,int)",
        "int fits(int)", "int best()", "int dearest()", "long hired(int)", "int fewest()", "int bays(int,int)",
        "int law(int,int)", "int unlaw()", "int doors(int)", "int keeps(int,int)", "int soil(int,int)",
        "int pitch(int,int,int,int)", "int bears(int)", "int gust(int,int)", "int hours(int,int)",
        "int crew(int,int,int)", "int loads(int,int)", "int count(int)", "long digest()"
    };

    public static void main(String[] args) {
        Check.about("the face");
        Check.holds("public", Modifier.isPublic(TentYard.class.getModifiers()));
        Check.holds("final", Modifier.isFinal(TentYard.class.getModifiers()));
        methods();
        others();
        Check.due("NONE", TentYard.NONE, -1);
        Check.due("BAD", TentYard.BAD, -2);
        Check.due("NO", TentYard.NO, -3);
        Check.due("FULL", TentYard.FULL, -4);
        Check.end("FaceTest");
    }

    private static void methods() {
        TreeSet<String> want = new TreeSet<>(java.util.Arrays.asList(FACE));
        TreeSet<String> got = new TreeSet<>();
        TreeSet<String> names = new TreeSet<>();
        for (Method m : TentYard.class.getDeclaredMethods()) {
            if (Modifier.isPublic(m.getModifiers())) {
                got.add(written(m));
                names.add(m.getName());
                Check.holds(m.getName() + " is of the object", !Modifier.isStatic(m.getModifiers()));
            }
        }
        Check.holds("methods " + want + " but shown " + got, want.equals(got));
        for (Method m : TentYard.class.getDeclaredMethods()) {
            if (!Modifier.isPublic(m.getModifiers())) {
                Check.holds(m.getName() + " is private", Modifier.isPrivate(m.getModifiers()));
                Check.holds(m.getName() + " bears a name of its own", !names.contains(m.getName()));
            }
        }
    }

    private static String written(Method m) {
        StringBuilder text = new StringBuilder();
        text.append(m.getReturnType().getName()).append(' ').append(m.getName()).append('(');
        for (int i = 0; i < m.getParameterCount(); i++) {
            text.append(i == 0 ? "" : ",").append(m.getParameterTypes()[i].getName());
        }
        return text.append(')').toString();
    }

    private static void others() {
        Constructor<?>[] made = TentYard.class.getDeclaredConstructors();
        Check.due("constructors", made.length, 1);
        Check.holds("the constructor is public, without parameters",
                Modifier.isPublic(made[0].getModifiers()) && made[0].getParameterCount() == 0);
        int shown = 0;
        for (Field f : TentYard.class.getDeclaredFields()) {
            if (!Modifier.isPrivate(f.getModifiers())) {
                shown++;
                Check.holds(f.getName() + " is a constant",
                        Modifier.isStatic(f.getModifiers()) && Modifier.isFinal(f.getModifiers()));
            }
        }
        Check.due("constants shown", shown, 4);
    }
}
