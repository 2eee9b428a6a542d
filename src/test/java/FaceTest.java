import java.lang.reflect.Constructor;
import java.lang.reflect.Field;
import java.lang.reflect.Method;
import java.lang.reflect.Modifier;
import java.util.Arrays;
import java.util.HashSet;
import java.util.Set;
import java.util.TreeSet;

/** The public face of the document, and the rules of LANGUAGE.md that reflection can see. */
public final class FaceTest {
    private static final String[] METHODS = {
        "int add()", "int box(int)", "boolean clock(int,int)", "int count(int)", "boolean cycle(int)",
        "int door(int,int)", "boolean drift(int)", "int leaves(int,int,int)", "int most(int)", "int place(int,int)",
        "int plain(int,int)", "int plan()", "int room(int,int,int)", "int send(int,int,int,int)", "int stir()",
        "int stream(int,int,int,int,int)", "boolean strike(int)", "int tries()", "int waits(int,int,int)",
        "int way(int,int,int,int,int)", "int wire(int,int,int,int)", "int worst(int,int)"};

    private static final Check CHECK = new Check();

    public static void main(String[] args) throws NoSuchFieldException {
        CHECK.promise("the face");
        Class<?> face = DoorNet.class;
        CHECK.due("public and final", face.getModifiers(), Modifier.PUBLIC | Modifier.FINAL);
        CHECK.due("NONE", face.getField("NONE").getModifiers(), Modifier.PUBLIC | Modifier.STATIC | Modifier.FINAL);
        constructors(face);
        methods(face);
        fields(face);
        int classes = 1;
        for (Class<?> inside : face.getDeclaredClasses()) {
            CHECK.due(inside + " is static", Modifier.isStatic(inside.getModifiers()), true);
            CHECK.due(inside + " is not public", Modifier.isPublic(inside.getModifiers()), false);
            inside(inside);
            classes++;
        }
        CHECK.due("twelve classes at most", classes <= 12, true);
        CHECK.end();
    }

    private static void constructors(Class<?> face) {
        Constructor<?>[] all = face.getDeclaredConstructors();
        CHECK.due("one constructor", all.length, 1);
        CHECK.due("it is public", Modifier.isPublic(all[0].getModifiers()), true);
        CHECK.due("it takes nothing", all[0].getParameterCount(), 0);
    }

    private static void methods(Class<?> face) {
        Set<String> seen = new TreeSet<>();
        Set<String> names = new HashSet<>();
        for (Method m : face.getDeclaredMethods()) {
            if (!Modifier.isPrivate(m.getModifiers())) {
                CHECK.due(m.getName() + " is plainly public", m.getModifiers(), Modifier.PUBLIC);
                seen.add(told(m));
                names.add(m.getName());
            }
        }
        Set<String> due = new TreeSet<>(Arrays.asList(METHODS));
        CHECK.due("methods " + seen, seen.equals(due), true);
        for (Method m : face.getDeclaredMethods()) {
            if (Modifier.isPrivate(m.getModifiers())) {
                CHECK.due("private " + m.getName() + " bears a public name", names.contains(m.getName()), false);
            }
        }
    }

    private static String told(Method m) {
        StringBuilder text = new StringBuilder();
        for (Class<?> type : m.getParameterTypes()) {
            text.append(text.length() > 0 ? "," : "").append(type);
        }
        return m.getReturnType() + " " + m.getName() + "(" + text + ")";
    }

    private static void fields(Class<?> face) {
        for (Field f : face.getDeclaredFields()) {
            if (!f.getName().equals("NONE")) {
                CHECK.due(f.getName() + " is private", Modifier.isPrivate(f.getModifiers()), true);
            }
        }
        inside(face);
    }

    private static void inside(Class<?> any) {
        int own = 0;
        for (Field f : any.getDeclaredFields()) {
            if (Modifier.isStatic(f.getModifiers())) {
                CHECK.due(f + " is final", Modifier.isFinal(f.getModifiers()), true);
            } else {
                own++;
            }
        }
        CHECK.due(any + " has twenty fields at most", own <= 20, true);
        for (Method m : any.getDeclaredMethods()) {
            CHECK.due(m + " takes seven at most", m.getParameterCount() <= 7, true);
        }
    }
}
