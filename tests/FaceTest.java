import java.lang.reflect.Constructor;
import java.lang.reflect.Field;
import java.lang.reflect.Method;
import java.lang.reflect.Modifier;
import java.util.Arrays;
import java.util.Set;
import java.util.TreeSet;

/** The public face is the one of the document, and nothing else can be seen from outside. */
public final class FaceTest {
    private static final Set<String> DUE = new TreeSet<>(Arrays.asList(
            "INVALID_ARGUMENT = -1000001", "NOT_POSSIBLE = -1000002", "LIMIT_REACHED = -1000003", "NOT_FOUND = -1000004",
            "RumorTombs/0", "villager/0", "sleep/1", "wake/1", "leave/1", "watch/1", "villagerOf/2", "tell/4", "bury/2",
            "meet/2", "entryOf/3", "tick/1", "newest/1", "unlike/2", "dead/1", "ghosts/3", "bestMeeting/1", "rounds/0",
            "count/1", "undo/0", "type/1", "clearText/0", "fault/1", "play/0"));

    public static void main(String[] args) throws IllegalAccessException {
        Set<String> found = new TreeSet<>();
        for (Field field : RumorTombs.class.getDeclaredFields()) {
            if (!Modifier.isPrivate(field.getModifiers())) {
                Due.is(field + " is a public constant", field.getModifiers(),
                        Modifier.PUBLIC | Modifier.STATIC | Modifier.FINAL);
                found.add(field.getName() + " = " + field.getInt(null));
            }
        }
        for (Constructor<?> constructor : RumorTombs.class.getDeclaredConstructors()) {
            Due.is(constructor + " is public", constructor.getModifiers(), Modifier.PUBLIC);
            found.add("RumorTombs/" + constructor.getParameterCount());
        }
        for (Method method : RumorTombs.class.getDeclaredMethods()) {
            if (Modifier.isPrivate(method.getModifiers())) {
                Due.is(method + " bears the name of a public one", bearsPublicName(method) ? 1 : 0, 0);
            } else {
                Due.is(method + " is public", method.getModifiers(), Modifier.PUBLIC);
                Due.is(method + " takes and answers int", intsAlone(method) ? 1 : 0, 1);
                found.add(method.getName() + "/" + method.getParameterCount());
            }
        }
        Due.is("the class is final", RumorTombs.class.getModifiers(), Modifier.PUBLIC | Modifier.FINAL);
        lookAtInnerClasses();
        if (!found.equals(DUE)) {
            System.out.println("the face is " + found);
        }
        Due.is("the face is the document's", found.equals(DUE) ? 1 : 0, 1);
        Due.end();
    }

    private static boolean intsAlone(Method method) {
        boolean ints = method.getReturnType() == int.class;
        for (Class<?> parameter : method.getParameterTypes()) {
            ints = ints && parameter == int.class;
        }
        return ints;
    }

    private static boolean bearsPublicName(Method method) {
        return Arrays.stream(RumorTombs.class.getMethods()).anyMatch(m -> m.getName().equals(method.getName()));
    }

    private static void lookAtInnerClasses() {
        for (Class<?> inner : RumorTombs.class.getDeclaredClasses()) {
            boolean hidden = !Modifier.isPublic(inner.getModifiers()) && !Modifier.isProtected(inner.getModifiers());
            Due.is(inner + " is hidden and static", hidden && Modifier.isStatic(inner.getModifiers()) ? 1 : 0, 1);
            for (Method method : inner.getDeclaredMethods()) {
                Due.is(method + " bears the name of a public one", bearsPublicName(method) ? 1 : 0, 0);
            }
        }
    }
}
