import java.lang.reflect.Constructor;
import java.lang.reflect.Field;
import java.lang.reflect.Member;
import java.lang.reflect.Method;
import java.lang.reflect.Modifier;
import java.util.ArrayList;
import java.util.Collections;
import java.util.List;

/** The public face: all that the document names, and nothing else. */
public final class FaceTest {
    private static final String[] FACE = {
        "SwingCity()", "back(int)int", "city()int", "clear()int", "count(int)int",
        "drift(int,int,int,int,int,int)int", "fits(int,int,int)int", "forget()int", "go(int,int)int",
        "keep(int)int", "meets()int", "open(int,int)int", "push(int,int)int", "rate(int,int)int",
        "rider(int,int)int", "rope(int,int)int", "route(int,int,int,int,int)int", "saw(int,int)int",
        "sill(int,int)int", "soonest(int,int,int,int)int", "stop(int)int", "trace()long",
        "tune(int,int,int,int,int)int", "type(long,int)int", "undo()int", "waits(int,int)int",
        "BAD int", "FULL int", "NO int", "NONE int", "STATE int",
    };

    private static boolean isSeen(Member m) {
        return !Modifier.isPrivate(m.getModifiers()) && !m.isSynthetic();
    }

    private static String parameters(Class<?>[] types) {
        StringBuilder all = new StringBuilder("(");
        for (int i = 0; i < types.length; i++) {
            all.append(i == 0 ? "" : ",").append(types[i].getName());
        }
        return all.append(")").toString();
    }

    public static void main(String[] args) {
        Due due = new Due("FaceTest");
        List<String> face = new ArrayList<>();
        for (Constructor<?> c : SwingCity.class.getDeclaredConstructors()) {
            if (isSeen(c)) {
                face.add("SwingCity" + parameters(c.getParameterTypes()));
            }
        }
        for (Method m : SwingCity.class.getDeclaredMethods()) {
            if (isSeen(m)) {
                face.add(m.getName() + parameters(m.getParameterTypes()) + m.getReturnType().getName());
                due.is("public " + m.getName(), Modifier.isPublic(m.getModifiers()) ? 1 : 0, 1);
            }
        }
        for (Field f : SwingCity.class.getDeclaredFields()) {
            if (isSeen(f)) {
                face.add(f.getName() + " " + f.getType().getName());
                due.is("public " + f.getName(), Modifier.isPublic(f.getModifiers()) ? 1 : 0, 1);
            }
            if (Modifier.isStatic(f.getModifiers())) {
                due.is("final " + f.getName(), Modifier.isFinal(f.getModifiers()) ? 1 : 0, 1);
            }
        }
        List<String> wanted = new ArrayList<>(List.of(FACE));
        Collections.sort(wanted);
        Collections.sort(face);
        due.is("the face " + face, face.equals(wanted) ? 1 : 0, 1);
        int modifiers = SwingCity.class.getModifiers();
        due.is("public final class", Modifier.isPublic(modifiers) && Modifier.isFinal(modifiers) ? 1 : 0, 1);
        due.is("BAD", SwingCity.BAD, -1);
        due.is("STATE", SwingCity.STATE, -2);
        due.is("FULL", SwingCity.FULL, -3);
        due.is("NONE", SwingCity.NONE, -9);
        due.is("NO", SwingCity.NO, -1000000);
        due.end();
    }
}
