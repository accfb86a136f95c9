import java.lang.reflect.Constructor;
import java.lang.reflect.Field;
import java.lang.reflect.Method;
import java.lang.reflect.Modifier;
import java.util.ArrayList;
import java.util.List;
import java.util.Set;
import java.util.TreeSet;

/** The public face of the document (rule 1 of LANGUAGE.md): all of it, and nothing beside it. */
public final class FaceTests {
    private static final String[] FACE = {
        "int letter(int)", "int blank()", "int fault()", "int slope()", "int stretch(int,int)",
        "int walker(int,int)", "int about(int,int)", "int as(int,int)", "int tread()", "int change()",
        "int rest()", "int snow(int)", "int sun()", "int best(int)", "int far(int)", "int setOut(int)",
        "int tell(int,int)", "int fits()", "int sure(int)", "int days(int,int,int)", "int image()",
        "int restore()", "int count(int)", "long digest()"};
    private static final String[] CONSTANTS = {"FULL=-104", "NONE=-1", "OUTSIDE=-102", "STATE=-103", "UNKNOWN=-101"};

    private static final Check check = new Check();

    public static void main(String[] args) throws Exception {
        methods();
        constants();
        names();
        classesInside();
        check.end("FaceTests");
    }

    private static void methods() {
        Set<String> want = new TreeSet<>(List.of(FACE));
        Set<String> got = new TreeSet<>();
        for (Method m : TrailBreakers.class.getDeclaredMethods()) {
            if (!Modifier.isPrivate(m.getModifiers())) got.add(signature(m));
        }
        check.holds("the methods are those of the document: " + got, got.equals(want));
        check.holds("the class is public and final", Modifier.isPublic(TrailBreakers.class.getModifiers())
            && Modifier.isFinal(TrailBreakers.class.getModifiers()));
        Constructor<?>[] made = TrailBreakers.class.getDeclaredConstructors();
        check.holds("one public constructor without arguments", made.length == 1
            && made[0].getParameterCount() == 0 && Modifier.isPublic(made[0].getModifiers()));
    }

    private static String signature(Method m) {
        StringBuilder s = new StringBuilder(m.getReturnType() + " " + m.getName() + "(");
        for (int i = 0; i < m.getParameterCount(); i++) s.append(i == 0 ? "" : ",").append(m.getParameterTypes()[i]);
        return s.append(")").toString();
    }

    private static void constants() throws IllegalAccessException {
        Set<String> got = new TreeSet<>();
        for (Field f : TrailBreakers.class.getDeclaredFields()) {
            if (Modifier.isPublic(f.getModifiers())) got.add(f.getName() + "=" + f.getInt(null));
            else check.holds("private: " + f, Modifier.isPrivate(f.getModifiers()));
            if (Modifier.isStatic(f.getModifiers())) check.holds("final: " + f, Modifier.isFinal(f.getModifiers()));
        }
        check.holds("the constants are those of the document: " + got, got.equals(new TreeSet<>(List.of(CONSTANTS))));
    }

    /** No private method, of the class or of one inside it, bears the name of a public one. */
    private static void names() {
        Set<String> face = new TreeSet<>();
        for (Method m : TrailBreakers.class.getMethods()) face.add(m.getName());
        List<Class<?>> all = new ArrayList<>(List.of(TrailBreakers.class.getDeclaredClasses()));
        all.add(TrailBreakers.class);
        for (Class<?> c : all) {
            for (Method m : c.getDeclaredMethods()) {
                boolean ofFace = c == TrailBreakers.class && Modifier.isPublic(m.getModifiers());
                check.holds("no name of the face: " + m, ofFace || !face.contains(m.getName()));
            }
        }
    }

    private static void classesInside() {
        for (Class<?> c : TrailBreakers.class.getDeclaredClasses()) {
            check.holds("static: " + c, Modifier.isStatic(c.getModifiers()));
            check.holds("not public, not protected: " + c, !Modifier.isPublic(c.getModifiers()) && !Modifier.isProtected(c.getModifiers()));
        }
    }
}
