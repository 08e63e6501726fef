import java.lang.reflect.Constructor;
import java.lang.reflect.Field;
import java.lang.reflect.Member;
import java.lang.reflect.Method;
import java.lang.reflect.Modifier;
import java.util.Arrays;
import java.util.Set;
import java.util.TreeSet;

/** The public face is the document's and no more; promise 1: a new object. */
public final class FaceTest {
    private static final String[] METHODS = {
        "int weeks(int)", "int turn(int,int,boolean,int,int)", "int hall(int,int,int)",
        "int feed(int,int,int,int,int)", "int sign(int,int,int)", "int fault()", "int force(int,int,int)",
        "int why(int,int,int)", "int book(int,int,int)", "boolean cancel(int,int)", "int where(int,int)",
        "int bill(int,int,int)", "int order(int,int,int)", "int waits(int,int)", "int fail(int,int)",
        "int fill(int,int,int)", "int pay(int,int,int)", "int turnOf(int,int)", "int count(int)"
    };

    private FaceTest() {
    }

    public static void main(String[] args) {
        faceIsTheDocuments();
        newObjectIsEmpty();
        Due.end();
    }

    private static void faceIsTheDocuments() {
        Class<?> face = VarietyCircuit.class;
        Due.due("the class is public and final",
                Modifier.isPublic(face.getModifiers()) && Modifier.isFinal(face.getModifiers()), true);
        Set<String> found = new TreeSet<>();
        Set<String> names = new TreeSet<>();
        for (Method m : face.getDeclaredMethods()) {
            if (Modifier.isPublic(m.getModifiers())) {
                String types = Arrays.stream(m.getParameterTypes()).map(Class::getName)
                        .reduce((a, b) -> a + "," + b).orElse("");
                found.add(m.getReturnType().getName() + " " + m.getName() + "(" + types + ")");
                names.add(m.getName());
            }
        }
        Due.due("the public methods " + found, found.equals(new TreeSet<>(Arrays.asList(METHODS))), true);
        for (Method m : face.getDeclaredMethods()) {
            isPublicOrPrivate(m);
            Due.due("a private method named " + m.getName(),
                    Modifier.isPrivate(m.getModifiers()) && names.contains(m.getName()), false);
        }
        for (Field f : face.getDeclaredFields()) {
            isPublicOrPrivate(f);
            Due.due("a public field " + f.getName(),
                    Modifier.isPublic(f.getModifiers()), f.getName().equals("NONE"));
        }
        Constructor<?>[] makers = face.getDeclaredConstructors();
        Due.due("constructors", makers.length, 1);
        Due.due("its parameters", makers[0].getParameterCount(), 0);
        Due.due("NONE", VarietyCircuit.NONE, -1);
    }

    private static void isPublicOrPrivate(Member m) {
        Due.due(m.getName() + " is public or private",
                Modifier.isPublic(m.getModifiers()) || Modifier.isPrivate(m.getModifiers()), true);
    }

    private static void newObjectIsEmpty() {
        VarietyCircuit x = new VarietyCircuit();
        for (int what = 0; what <= 5; what++) {
            Due.due("count(" + what + ") of a new object", x.count(what), 0);
        }
        Due.due("fault() of a new object", x.fault(), -1);
        Due.due("turnOf(0, 0) of a new object", x.turnOf(0, 0), -1);
        Due.due("bill(0, 0, 0) of a new object", x.bill(0, 0, 0), -1);
        Due.due("force(0, 0, 0) of a new object", x.force(0, 0, 0), -1);
        Due.due("why(0, 0, 0) of a new object", x.why(0, 0, 0), 1);
        Due.due("where(0, 0) of a new object", x.where(0, 0), -1);
    }
}
