import java.lang.reflect.Constructor;
import java.lang.reflect.Field;
import java.lang.reflect.Method;
import java.lang.reflect.Modifier;
import java.util.ArrayList;
import java.util.Arrays;
import java.util.List;
import java.util.TreeSet;

/** The public face of the document, and what LANGUAGE.md's rules 1, 5 and 11 ask of members and classes. */
final class FaceTest {
    /** Each name with how many ints it takes; all answer an int but element. */
    private static final String FACE = "wall 1, drawer 2, comes 1, changes 2, pull 1, standing 1, stand 1, fewest 2, "
        + "first 2, far 1, never 0, place 1, at 1, had 1, freed 1, longest 4, tried 3, next 4, game 2, run 2, seeded 3, "
        + "judge 1, image 0, restore 0, count 1, keep 4, row 3, put 3, element 2, copy 5, cost 1, toss 1";

    private FaceTest() {
    }

    public static void main(String[] args) {
        Class<?> face = AboveIsShut.class;
        Check.due("public and final", face.getModifiers(), Modifier.PUBLIC | Modifier.FINAL);
        members(face);
        constructors(face);
        fields(face);
        Check.holds("at most twelve classes", face.getDeclaredClasses().length + 1 <= 12);
        for (Class<?> inside : face.getDeclaredClasses()) {
            Check.holds(inside + " is private and static", Modifier.isPrivate(inside.getModifiers())
                && Modifier.isStatic(inside.getModifiers()));
            fields(inside);
        }
        Check.end();
    }

    private static void members(Class<?> face) {
        TreeSet<String> told = new TreeSet<>(Arrays.asList(FACE.split(", ")));
        TreeSet<String> names = new TreeSet<>();
        for (String one : told) {
            names.add(one.substring(0, one.indexOf(' ')));
        }
        List<String> found = new ArrayList<>();
        for (Method method : face.getDeclaredMethods()) {
            if (Modifier.isPublic(method.getModifiers())) {
                found.add(method.getName() + " " + method.getParameterCount());
                shape(method);
            } else if (!method.isSynthetic()) {
                Check.holds(method + " is private", Modifier.isPrivate(method.getModifiers()));
                Check.holds(method + " bears no public name", !names.contains(method.getName()));
            }
            Check.holds(method + " takes at most seven", method.getParameterCount() <= 7);
        }
        Check.due("as many calls as told", found.size(), told.size());
        Check.holds("the calls that are told", told.equals(new TreeSet<>(found)));
    }

    private static void shape(Method method) {
        for (Class<?> parameter : method.getParameterTypes()) {
            Check.holds(method + " takes ints", parameter == int.class);
        }
        boolean element = method.getName().equals("element");
        Check.holds(method + " answers so", method.getReturnType() == (element ? long.class : int.class));
        List<Class<?>> thrown = Arrays.asList(method.getExceptionTypes());
        Check.holds(method + " throws so", thrown.equals(element
            ? Arrays.asList(IllegalArgumentException.class, IllegalStateException.class) : new ArrayList<Class<?>>()));
    }

    private static void constructors(Class<?> face) {
        Constructor<?>[] all = face.getDeclaredConstructors();
        Check.due("one constructor", all.length, 1);
        Check.holds("public, without parameters", Modifier.isPublic(all[0].getModifiers())
            && all[0].getParameterCount() == 0);
    }

    private static void fields(Class<?> owner) {
        int own = 0;
        for (Field field : owner.getDeclaredFields()) {
            if (Modifier.isStatic(field.getModifiers())) {
                Check.holds(field + " is final", Modifier.isFinal(field.getModifiers()));
            } else {
                own++;
            }
            Check.holds(field + " is no public one", !Modifier.isPublic(field.getModifiers()));
            if (owner == AboveIsShut.class) {
                Check.holds(field + " is private", Modifier.isPrivate(field.getModifiers()));
            }
        }
        Check.holds("at most twenty fields in " + owner, own <= 20);
    }
}
