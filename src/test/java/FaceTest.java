import java.lang.reflect.Constructor;
import java.lang.reflect.Field;
import java.lang.reflect.Method;
import java.lang.reflect.Modifier;
import java.util.Arrays;
import java.util.Set;
import java.util.TreeSet;

/** The public face, which has to be the document's, and no more. */
public final class FaceTest {
    private static final String[] METHODS = {
        "int putOn() State",
        "int takeOff(int) Index State",
        "int cars()",
        "int place(int) Index",
        "int placeByTurns(int) Index",
        "int leastGap()",
        "int wind(int, int) Index Argument",
        "int setLimits(int, int, int) Index Argument",
        "int cut(int, boolean) Index",
        "int vote(int) Index",
        "int voteTime(int) Index",
        "int fresh()",
        "int onTheWay()",
        "int wouldDecide()",
        "boolean hold(boolean)",
        "int pass(int) Argument State",
        "int time()",
        "int moved()",
        "int decided(int) Index",
        "int minutes(int) Argument",
        "int board(int, int, int) Index Argument State",
        "int people(int) Index",
        "int arrived(int) Index",
        "int hung(int) Index",
        "int refund(int) Index",
        "int refunds()",
    };

    public static void main(String[] args) {
        Check.due("the class is public and final", Modifier.PUBLIC | Modifier.FINAL, RopeVotes.class.getModifiers());
        methods();
        constructors();
        fields();
        Check.due("NONE", -1, RopeVotes.NONE);
        Check.due("STOP", 0, RopeVotes.STOP);
        Check.due("SLOW", 1, RopeVotes.SLOW);
        Check.due("FULL", 2, RopeVotes.FULL);
        Check.end();
    }

    private static void methods() {
        Set<String> got = new TreeSet<>();
        Set<String> names = new TreeSet<>();
        for (Method method : RopeVotes.class.getDeclaredMethods()) {
            if (!Modifier.isPrivate(method.getModifiers())) {
                Check.due("modifiers of " + method.getName(), Modifier.PUBLIC, method.getModifiers());
                got.add(told(method));
                names.add(method.getName());
            }
        }
        Check.due("the face", new TreeSet<>(Arrays.asList(METHODS)).toString(), got.toString());
        for (Method method : RopeVotes.class.getDeclaredMethods()) {
            if (Modifier.isPrivate(method.getModifiers())) {
                Check.due(method.getName() + " bears a public name", false, names.contains(method.getName()));
            }
        }
    }

    private static String told(Method method) {
        StringBuilder text = new StringBuilder(method.getReturnType() + " " + method.getName() + "(");
        for (int i = 0; i < method.getParameterCount(); i++) {
            text.append(i == 0 ? "" : ", ").append(method.getParameterTypes()[i]);
        }
        text.append(")");
        for (Class<?> thrown : method.getExceptionTypes()) {
            String name = thrown.getSimpleName();
            text.append(" ").append(name.startsWith("Index") ? "Index" : name.startsWith("IllegalA") ? "Argument" : "State");
        }
        return text.toString();
    }

    private static void constructors() {
        Constructor<?>[] all = RopeVotes.class.getDeclaredConstructors();
        Check.due("constructors", 1, all.length);
        Check.due("the constructor is public", Modifier.PUBLIC, all[0].getModifiers());
        Check.due("its parameters", 0, all[0].getParameterCount());
    }

    private static void fields() {
        Set<String> open = new TreeSet<>();
        for (Field field : RopeVotes.class.getDeclaredFields()) {
            if (!Modifier.isPrivate(field.getModifiers())) {
                open.add(Modifier.toString(field.getModifiers()) + " " + field.getType() + " " + field.getName());
            }
        }
        Check.due("open fields", "[public static final int FULL, public static final int NONE, "
            + "public static final int SLOW, public static final int STOP]", open.toString());
    }
}
