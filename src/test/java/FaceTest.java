import java.lang.reflect.Constructor;
import java.lang.reflect.Field;
import java.lang.reflect.Method;
import java.lang.reflect.Modifier;
import java.util.NoSuchElementException;
import java.util.Set;
import java.util.TreeSet;

/** The face: what the document names is public, and nothing else can be seen from outside. */
public final class FaceTest {
    private static final String[] FACE = {
        "int feed(int,int,int,int,int)", "int island(int)", "int fault()", "int where()",
        "int can(int,int,int)", "int canOn(int,int,int)", "int steepest(int,int,boolean)",
        "int need(int,int,int)", "int minutes(int,int,int,int)", "int chance(int,int,int)",
        "int lying(int,int,int)", "int easiest(int,int)", "boolean seed(int)",
        "boolean move(int,int,int,int)", "int step()", "boolean call(int)", "int at(int)",
        "int tries(int)", "long image()", "boolean restore(long)", "long odds(int)",
        "int likeliest()", "int lies(int,int)", "int hollow(int,int)", "int shape(int)",
        "int changed()", "int told(int,int)", "boolean turn(int,int)", "int hangs()",
        "int tryout()", "int people(int,int,boolean)", "int takes(int,int,boolean)",
        "int off(int)", "int wood(int)", "int enough(int)", "int trees(int,int)",
        "int see(int,int,int)", "int forget()", "int fits()", "int weight()", "int gone(int)",
        "int dig()", "int lived(boolean)", "int led(int,int)", "int size(int)",
        "int statue(int,int)", "int trouble()",
    };

    public static void main(String[] args) throws NoSuchMethodException {
        Class<?> face = StoneWalk.class;
        Check.due("public and final", face.getModifiers(), Modifier.PUBLIC | Modifier.FINAL);
        methods(face);
        fields(face);
        constructors(face);
        for (Class<?> inside : face.getDeclaredClasses()) {
            int seen = inside.getModifiers() & (Modifier.PUBLIC | Modifier.PROTECTED);
            Check.due(inside + " is hidden", seen, 0);
            Check.due(inside + " is static", Modifier.isStatic(inside.getModifiers()), true);
        }
        Check.due("classes in the file", face.getDeclaredClasses().length < 13, true);
        Class<?>[] thrown = face.getMethod("led", int.class, int.class).getExceptionTypes();
        Check.due("led throws", thrown.length == 1 && thrown[0] == NoSuchElementException.class, true);
        Check.end("FaceTest");
    }

    private static void methods(Class<?> face) {
        Set<String> due = new TreeSet<>(Set.of(FACE));
        Set<String> names = new TreeSet<>();
        for (String line : FACE) {
            names.add(line.substring(line.indexOf(' ') + 1, line.indexOf('(')));
        }
        for (Method method : face.getDeclaredMethods()) {
            boolean open = !Modifier.isPrivate(method.getModifiers());
            String line = describe(method);
            Check.due(line + " is of the face", open ? due.remove(line) : true, true);
            Check.due(line + " has a name of its own", open || !names.contains(method.getName()), true);
        }
        Check.due("missing " + due, due.size(), 0);
    }

    private static String describe(Method method) {
        StringBuilder line = new StringBuilder(method.getReturnType() + " " + method.getName() + "(");
        String parting = "";
        for (Class<?> type : method.getParameterTypes()) {
            line.append(parting).append(type);
            parting = ",";
        }
        return line.append(')').toString();
    }

    private static void fields(Class<?> face) {
        int open = 0;
        for (Field field : face.getDeclaredFields()) {
            boolean still = Modifier.isFinal(field.getModifiers());
            boolean shared = Modifier.isStatic(field.getModifiers());
            Check.due(field.getName() + " is no changing static", shared && !still, false);
            if (!Modifier.isPrivate(field.getModifiers())) {
                open++;
                Check.due("NONE is the one that shows", field.getName().equals("NONE"), true);
            }
        }
        Check.due("fields that show", open, 1);
        Check.due("NONE", StoneWalk.NONE, -1);
    }

    private static void constructors(Class<?> face) {
        Constructor<?>[] all = face.getDeclaredConstructors();
        Check.due("constructors", all.length, 1);
        Check.due("its parameters", all[0].getParameterCount(), 0);
        Check.due("it is public", Modifier.isPublic(all[0].getModifiers()), true);
    }
}
