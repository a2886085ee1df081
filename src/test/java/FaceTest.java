import java.lang.reflect.Constructor;
import java.lang.reflect.Field;
import java.lang.reflect.Method;
import java.lang.reflect.Modifier;
import java.util.Set;
import java.util.TreeSet;

/** The public face has what the document has, and nothing more. */
public final class FaceTest {
    private static final String[] METHODS = {
        "inn(int,int,boolean)", "string(int,int,int,int)", "snow(int,int,int)", "shut(int,int,int)",
        "pack(int,int,int,int)", "lay(int,int,int,int)", "down(int)", "go(int,boolean)", "hours(int)",
        "best(int,int)", "bestOf(int,int,int)", "feed(int,int,int,int,int)", "end(int)", "bargain()", "place()",
        "stringOf(int,int)", "muleOf(int,int,int)", "of(int,int)", "brought(int)", "was(int,int)", "count(int)"};

    public static void main(String[] args) throws Exception {
        Due due = new Due();
        Set<String> wanted = new TreeSet<>(Set.of(METHODS));
        Set<String> names = new TreeSet<>();
        for (String m : METHODS) {
            names.add(m.substring(0, m.indexOf('(')));
        }
        for (Method m : MuleRoad.class.getDeclaredMethods()) {
            if (Modifier.isPrivate(m.getModifiers())) {
                due.is("private " + m.getName() + " bears a public name", names.contains(m.getName()) ? 1 : 0, 0);
                continue;
            }
            String told = m.toString();
            String face = told.substring(told.indexOf("MuleRoad.") + 9, told.indexOf(')') + 1);
            due.is(face + " stands in the face", wanted.remove(face) ? 1 : 0, 1);
            due.is(face + " is public, of the object, int",
                m.getModifiers() == Modifier.PUBLIC && m.getReturnType() == int.class ? 1 : 0, 1);
        }
        due.is("methods that are missing: " + wanted, wanted.size(), 0);
        for (Field f : MuleRoad.class.getDeclaredFields()) {
            boolean constant = f.getName().equals("NONE");
            due.is("field " + f.getName() + " is private", Modifier.isPrivate(f.getModifiers()) ? 1 : 0, constant ? 0 : 1);
        }
        Constructor<?>[] made = MuleRoad.class.getDeclaredConstructors();
        due.is("constructors", made.length, 1);
        due.is("the constructor is public and bare",
            Modifier.isPublic(made[0].getModifiers()) && made[0].getParameterCount() == 0 ? 1 : 0, 1);
        due.is("brought throws", MuleRoad.class.getMethod("brought", int.class).getExceptionTypes().length, 1);
        due.is("the class is final", Modifier.isFinal(MuleRoad.class.getModifiers()) ? 1 : 0, 1);
        due.is("NONE", MuleRoad.NONE, -1);
        due.end();
    }
}
