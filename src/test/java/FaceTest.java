import java.lang.reflect.Constructor;
import java.lang.reflect.Field;
import java.lang.reflect.Method;
import java.lang.reflect.Modifier;
import java.util.ArrayList;
import java.util.Collections;
import java.util.List;

/** The public face is the document's, no more and no less. */
public final class FaceTest {
    private static final String[] FACE = {
        "int feed(int)", "int end(int)", "int text()", "int fault()", "int rule(int)", "int helper(int)",
        "int hatred(int,int,int)", "int slip(int,int)", "int plan(int)", "int hate(int,int,int)", "int use(int)",
        "int tell(int,int)", "int forgive(int)", "int teach(int,int)", "int set(int,int)", "int plans(int,int)",
        "int cut(int)", "int turn(int,int)", "int stir(int,int)", "int runs(int)", "int ahead(int,int,int)",
        "int lasts(int,int)", "int three(int,int,int)", "int best(int,int)", "int few(int)", "int slips(int)",
        "int mate(int)", "int match(int)", "int see(int,int)", "int forget(int)", "int fits(int,int,int)",
        "int forgave(int)", "long luck(int,int,int,int)", "long mean(int,int,int,int)", "int drift(int,int,int)",
        "int keep(int)", "int back(int)", "int sheet(int,int,int)", "int lay(int,int,int)",
        "int read(int,int,int,int)", "int torn()", "int count(int)"
    };

    public static void main(String[] args) {
        Due due = new Due("FaceTest");
        due.is("BAD", SpoonHates.BAD, -1);
        due.is("STATE", SpoonHates.STATE, -2);
        due.is("FULL", SpoonHates.FULL, -3);
        due.is("NONE", SpoonHates.NONE, -4);
        Class<?> face = SpoonHates.class;
        due.is("the class is public and final", face.getModifiers(), Modifier.PUBLIC | Modifier.FINAL);
        List<String> want = new ArrayList<>(List.of(FACE));
        List<String> got = new ArrayList<>();
        for (Method m : face.getDeclaredMethods()) {
            if (!Modifier.isPrivate(m.getModifiers())) {
                got.add(told(m));
                due.is(m + " is public alone", m.getModifiers(), Modifier.PUBLIC);
            } else {
                due.is("the private " + m + " has a name of its own", namesOf(want).contains(m.getName()) ? 1 : 0, 0);
            }
        }
        Collections.sort(want);
        Collections.sort(got);
        due.is("methods are " + got, got.equals(want) ? 1 : 0, 1);
        int constants = 0;
        for (Field f : face.getDeclaredFields()) {
            if (!Modifier.isPrivate(f.getModifiers())) {
                constants++;
                due.is(f + " is a constant", f.getModifiers(), Modifier.PUBLIC | Modifier.STATIC | Modifier.FINAL);
            } else if (Modifier.isStatic(f.getModifiers())) {
                due.is(f + " is final", Modifier.isFinal(f.getModifiers()) ? 1 : 0, 1);
            }
        }
        due.is("constants", constants, 4);
        Constructor<?>[] makers = face.getDeclaredConstructors();
        due.is("constructors", makers.length, 1);
        due.is("its arguments", makers[0].getParameterCount(), 0);
        due.is("it is public", makers[0].getModifiers(), Modifier.PUBLIC);
        for (Class<?> inside : face.getDeclaredClasses()) {
            due.is(inside + " is static", Modifier.isStatic(inside.getModifiers()) ? 1 : 0, 1);
            due.is(inside + " is not public", inside.getModifiers() & (Modifier.PUBLIC | Modifier.PROTECTED), 0);
        }
        due.close();
    }

    private static String told(Method m) {
        StringBuilder all = new StringBuilder(m.getReturnType() + " " + m.getName() + "(");
        for (Class<?> type : m.getParameterTypes()) {
            all.append(all.charAt(all.length() - 1) == '(' ? "" : ",").append(type);
        }
        return all.append(')').toString();
    }

    private static List<String> namesOf(List<String> methods) {
        List<String> names = new ArrayList<>();
        for (String m : methods) {
            names.add(m.substring(m.indexOf(' ') + 1, m.indexOf('(')));
        }
        return names;
    }
}
