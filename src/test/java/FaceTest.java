import java.lang.reflect.Constructor;
import java.lang.reflect.Field;
import java.lang.reflect.Method;
import java.lang.reflect.Modifier;
import java.util.ArrayList;
import java.util.HashSet;
import java.util.List;
import java.util.Set;
import java.util.TreeSet;

/** The public face as the document tells it, and LANGUAGE.md's rules 1, 2, 5 and 11 about members. */
public final class FaceTest {
    /** Each method's name, and how many numbers it takes; all of int but part and digest, which answer long. */
    private static final String[] FACE = {
        "sea 1", "wind 3", "floe 3", "type 1", "clear 0", "read 0", "month 1", "feed 2", "moves 2", "undo 0", "of 2",
        "then 2", "out 1", "need 1", "enter 2", "nearest 3", "dogs 2", "found 3", "whence 1", "note 7", "forget 1",
        "is 1", "waits 1", "leave 3", "calms 3", "years 2", "part 1", "image 1", "from 1", "status 1", "count 1",
        "digest 0"};

    private FaceTest() {
    }

    public static void main(String[] args) {
        methods();
        constantsAndConstructor();
        membersOfAllClasses();
        Due.end();
    }

    private static void methods() {
        Set<String> due = new TreeSet<>(List.of(FACE));
        Set<String> names = new HashSet<>();
        for (String told : FACE) {
            names.add(told.split(" ")[0]);
        }
        Set<String> there = new TreeSet<>();
        for (Method method : FrozenIn.class.getDeclaredMethods()) {
            int modifiers = method.getModifiers();
            if (Modifier.isPrivate(modifiers)) {
                continue;
            }
            Due.holds(method + " is public, not static", modifiers == Modifier.PUBLIC);
            there.add(method.getName() + " " + method.getParameterCount());
            boolean isLong = method.getName().equals("part") || method.getName().equals("digest");
            Due.holds(method + " answers as told", method.getReturnType() == (isLong ? long.class : int.class));
            for (Class<?> type : method.getParameterTypes()) {
                Due.holds(method + " takes int", type == int.class);
            }
        }
        Due.holds("the face is " + due + ", it was " + there, due.equals(there));
        for (Class<?> one : allClasses()) {
            for (Method method : one.getDeclaredMethods()) {
                boolean ofFace = one == FrozenIn.class && Modifier.isPublic(method.getModifiers());
                Due.holds(method + " bears no name of the face", ofFace || !names.contains(method.getName()));
            }
        }
    }

    private static void constantsAndConstructor() {
        Due.holds("the class is public and final", FrozenIn.class.getModifiers() == (Modifier.PUBLIC | Modifier.FINAL));
        Due.holds("it has no package", FrozenIn.class.getPackageName().isEmpty());
        Constructor<?>[] constructors = FrozenIn.class.getDeclaredConstructors();
        Due.holds("one public constructor without numbers", constructors.length == 1
                && constructors[0].getModifiers() == Modifier.PUBLIC && constructors[0].getParameterCount() == 0);
        Set<String> there = new TreeSet<>();
        for (Field field : FrozenIn.class.getDeclaredFields()) {
            if (!Modifier.isPrivate(field.getModifiers())) {
                Due.holds(field + " is a constant of int", field.getType() == int.class
                        && field.getModifiers() == (Modifier.PUBLIC | Modifier.STATIC | Modifier.FINAL));
                there.add(field.getName());
            }
        }
        Due.holds("the constants, there were " + there, there.equals(Set.of("NONE", "BAD", "NO", "FULL")));
    }

    private static void membersOfAllClasses() {
        Due.holds("some twelve classes", allClasses().size() <= 12);
        for (Class<?> one : allClasses()) {
            boolean inside = one != FrozenIn.class;
            Due.holds(one + " is static", !inside || Modifier.isStatic(one.getModifiers()));
            Due.holds(one + " is no public one", !inside || (one.getModifiers() & (Modifier.PUBLIC | Modifier.PROTECTED)) == 0);
            int fields = 0;
            for (Field field : one.getDeclaredFields()) {
                boolean isStatic = Modifier.isStatic(field.getModifiers());
                Due.holds(field + " is final, if static", !isStatic || Modifier.isFinal(field.getModifiers()));
                fields += isStatic ? 0 : 1;
            }
            Due.holds(one + " has some twenty fields, it has " + fields, fields <= 20);
            for (Method method : one.getDeclaredMethods()) {
                Due.holds(method + " takes seven numbers at most", method.getParameterCount() <= 7);
                Due.holds(method + " is written, not made", !method.isSynthetic());
            }
        }
    }

    private static List<Class<?>> allClasses() {
        List<Class<?>> all = new ArrayList<>(List.of(FrozenIn.class));
        for (int i = 0; i < all.size(); i++) {
            all.addAll(List.of(all.get(i).getDeclaredClasses()));
        }
        return all;
    }
}
