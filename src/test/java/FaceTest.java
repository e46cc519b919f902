import java.lang.reflect.Constructor;
import java.lang.reflect.Field;
import java.lang.reflect.Method;
import java.lang.reflect.Modifier;
import java.util.ArrayList;
import java.util.Arrays;
import java.util.Collections;
import java.util.List;

/** The public face is the document's, and nothing else can be seen from outside. */
public final class FaceTest {
    private static final String[] FACE = {
        "int sign(int)", "boolean end(int)", "int way()", "int bearers()", "int sayings()", "int rule()",
        "int bearer(int,int) throws NoSuchElementException", "int saying(int,int) throws NoSuchElementException",
        "int force()", "int load(int)", "int sheet(int,int,int,int)",
        "int step()", "int take(int)", "int leave(int)", "int seventh(int)", "int say(int)", "int walk()",
        "int undo()",
        "int ahead(int)", "int first()", "int bears()", "int hush()", "int which()", "int could()",
        "int team(int)", "int fewest()", "int change()", "int props()", "int rest(int)", "int slant()",
        "int cover(int)", "int lighter(int)", "int secret(int)", "int best()",
        "int old(int,int)", "int forget()", "int worlds()", "int sure()", "int ask()",
        "int widow(int,int)", "int claim(int,int,int)", "int unsaid()", "int believe()",
        "int slips(int)", "int rests(int)", "int law()", "int years(int,int)",
        "boolean keep(int)", "boolean again(int)", "int count(int)",
        "long row(int) throws NoSuchElementException",
    };

    public static void main(String[] args) {
        Class<?> face = SixToCarry.class;
        Check.due("the class is public and final", face.getModifiers(), Modifier.PUBLIC | Modifier.FINAL);
        Check.due("NONE", SixToCarry.NONE, -1);

        List<String> wanted = new ArrayList<>(Arrays.asList(FACE));
        List<String> found = new ArrayList<>();
        List<String> hidden = new ArrayList<>();
        for (Method m : face.getDeclaredMethods()) {
            if (Modifier.isPrivate(m.getModifiers()) || m.isSynthetic()) {
                hidden.add(m.getName());
            } else {
                Check.due(m + " is public alone", m.getModifiers(), Modifier.PUBLIC);
                found.add(told(m));
            }
        }
        Collections.sort(wanted);
        Collections.sort(found);
        Check.due("the methods", found.toString(), wanted.toString());
        for (String method : FACE) {
            String name = method.substring(method.indexOf(' ') + 1, method.indexOf('('));
            Check.due("a private method is named " + name, hidden.contains(name), false);
        }
        for (Field f : face.getDeclaredFields()) {
            boolean seen = !Modifier.isPrivate(f.getModifiers());
            Check.due(f + " is seen", seen, f.getName().equals("NONE"));
        }
        Constructor<?>[] made = face.getDeclaredConstructors();
        Check.due("constructors", made.length, 1);
        Check.due("the constructor is public", made[0].getModifiers(), Modifier.PUBLIC);
        Check.due("its parameters", made[0].getParameterCount(), 0);
        for (Class<?> inner : face.getDeclaredClasses()) {
            Check.due(inner + " is public or protected",
                    (inner.getModifiers() & (Modifier.PUBLIC | Modifier.PROTECTED)) != 0, false);
        }
        Check.end();
    }

    private static String told(Method m) {
        StringBuilder all = new StringBuilder();
        all.append(m.getReturnType().getSimpleName()).append(' ').append(m.getName()).append('(');
        for (int k = 0; k < m.getParameterCount(); k++) {
            all.append(k == 0 ? "" : ",").append(m.getParameterTypes()[k].getSimpleName());
        }
        all.append(')');
        for (Class<?> thrown : m.getExceptionTypes()) {
            all.append(" throws ").append(thrown.getSimpleName());
        }
        return all.toString();
    }
}
