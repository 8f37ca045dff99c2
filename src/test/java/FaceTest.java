import java.lang.reflect.Constructor;
import java.lang.reflect.Field;
import java.lang.reflect.Method;
import java.lang.reflect.Modifier;
import java.util.Arrays;
import java.util.HashSet;
import java.util.List;
import java.util.Set;
import java.util.TreeSet;

/** The public face is the document's and nothing else can be reached from outside. */
public final class FaceTest {
    private static final List<String> FACE = Arrays.asList("int set(int,int,int)", "int setRain(int,int)",
        "int spill(int,int)", "int come(int,int)", "int send(int,int)", "int buy(int)", "int sweeper(int,int)",
        "int crossing(int,int)", "int count(int)", "int pass(int)", "int way(int,int)", "int earns(int,int)",
        "int advise(int,int)", "int foresee(int,int)", "double mean()", "long digest()");

    public static void main(String[] args) {
        Set<String> open = new TreeSet<>();
        Set<String> names = new HashSet<>();
        Set<String> hidden = new HashSet<>();
        for (Method m : MudSweepers.class.getDeclaredMethods()) {
            if (Modifier.isPrivate(m.getModifiers())) {
                hidden.add(m.getName());
            } else {
                open.add(signature(m));
                names.add(m.getName());
            }
        }
        boolean good = open.equals(new TreeSet<>(FACE));
        hidden.retainAll(names);
        good &= hidden.isEmpty();
        good &= Modifier.isFinal(MudSweepers.class.getModifiers()) && Modifier.isPublic(MudSweepers.class.getModifiers());
        for (Field f : MudSweepers.class.getDeclaredFields()) {
            good &= Modifier.isPrivate(f.getModifiers());
        }
        Constructor<?>[] made = MudSweepers.class.getDeclaredConstructors();
        good &= made.length == 1 && made[0].getParameterCount() == 0 && Modifier.isPublic(made[0].getModifiers());
        System.out.println(good ? "the face is as due" : "the face is not as due: " + open + ", twice named " + hidden);
        if (!good) {
            System.exit(1);
        }
    }

    private static String signature(Method m) {
        StringBuilder b = new StringBuilder();
        for (Class<?> p : m.getParameterTypes()) {
            b.append(b.length() == 0 ? "" : ",").append(p.getName());
        }
        return (Modifier.isPublic(m.getModifiers()) && !Modifier.isStatic(m.getModifiers()) ? "" : "not public ")
            + m.getReturnType().getName() + " " + m.getName() + "(" + b + ")";
    }
}
