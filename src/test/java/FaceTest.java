import java.lang.reflect.Constructor;
import java.lang.reflect.Field;
import java.lang.reflect.InvocationTargetException;
import java.lang.reflect.Method;
import java.lang.reflect.Modifier;
import java.util.Arrays;
import java.util.NoSuchElementException;
import java.util.Random;
import java.util.Set;
import java.util.TreeSet;

/** The face is the document's, and no call throws but where the document says so. */
public final class FaceTest {
    private static final String[] FACE = {
        "feed(int,int,int,int,int)int", "end(int)boolean", "fault(int)int", "text(int)int", "at(int)int",
        "lightAt(int,int)int", "light(int)boolean", "put(int,int)int", "take(int)int", "move(int,int)int",
        "evening(int)int", "undo()int", "says(int,int)int", "between(int,int)int",
        "nearest(int,int,boolean,int)int", "sayable(int)int", "word(int,int,int)int", "soonest(int,int)int",
        "aunt(int,int,int)int", "safe(int,int,int)int", "gap(int)int", "read(int,int)int",
        "both(int,int,int,int,int)int", "see(int,int,int)int", "ways(int)long", "likely(int,int,int,int)long",
        "tell(int,int)int", "agree()int", "apart()int", "frost(int)int", "drawn(int,long)int", "diary(int)int",
        "image()int", "back()int", "count(int)int"};
    private static final int[] ODD = {Integer.MIN_VALUE, Integer.MIN_VALUE + 1, -1000000, -2, -1, 0, 1, 2, 3, 4,
        5, 6, 7, 8, 12, 13, 20, 31, 32, 60, 61, 100, 120, 121, 22222, 100000, Integer.MAX_VALUE};

    private FaceTest() {
    }

    public static void main(String[] args) throws Exception {
        members();
        oddArguments();
        Checks.end("FaceTest");
    }

    private static void members() {
        Class<?> face = FlowerPots.class;
        Checks.due("public final", face.getModifiers(), Modifier.PUBLIC | Modifier.FINAL);
        Constructor<?>[] made = face.getDeclaredConstructors();
        Checks.due("one constructor", made.length, 1);
        Checks.due("it is public and takes nothing", Modifier.isPublic(made[0].getModifiers())
            && made[0].getParameterCount() == 0, true);
        Set<String> found = new TreeSet<>();
        Set<String> names = new TreeSet<>();
        for (Method method : face.getDeclaredMethods()) {
            if (Modifier.isPublic(method.getModifiers())) {
                found.add(told(method));
                names.add(method.getName());
            } else if (!method.isSynthetic()) {
                Checks.due(method + " is private", Modifier.isPrivate(method.getModifiers()), true);
            }
        }
        Set<String> missing = new TreeSet<>(Arrays.asList(FACE));
        missing.removeAll(found);
        Set<String> more = new TreeSet<>(found);
        more.removeAll(Arrays.asList(FACE));
        Checks.due("missing " + missing, missing.size(), 0);
        Checks.due("too many " + more, more.size(), 0);
        for (Field field : face.getDeclaredFields()) {
            boolean constant = field.getName().equals("NONE") || field.getName().equals("HIDDEN");
            int due = constant ? Modifier.PUBLIC | Modifier.STATIC | Modifier.FINAL : 0;
            Checks.due(field.getName(), constant ? field.getModifiers() : field.getModifiers() & Modifier.PUBLIC, due);
            Checks.due(field + " is private", constant || Modifier.isPrivate(field.getModifiers()), true);
        }
        inside(face, names);
    }

    private static void inside(Class<?> face, Set<String> names) {
        for (Class<?> inner : face.getDeclaredClasses()) {
            Checks.due(inner + " is static", Modifier.isStatic(inner.getModifiers()), true);
            Checks.due(inner + " is not public", Modifier.isPublic(inner.getModifiers()), false);
            Checks.due(inner + " has some twenty fields", inner.getDeclaredFields().length <= 24, true);
            for (Method method : inner.getDeclaredMethods()) {
                Checks.due(method + " has a name of its own", names.contains(method.getName()), false);
            }
        }
    }

    private static String told(Method method) {
        StringBuilder all = new StringBuilder(method.getName()).append('(');
        for (Class<?> type : method.getParameterTypes()) {
            all.append(all.charAt(all.length() - 1) == '(' ? "" : ",").append(type.getName());
        }
        return all.append(')').append(method.getReturnType().getName()).toString();
    }

    /** Any arguments in any state. */
    private static void oddArguments() throws Exception {
        Random random = new Random(7);
        Method[] methods = FlowerPots.class.getDeclaredMethods();
        Arrays.sort(methods, (a, b) -> a.toString().compareTo(b.toString()));
        String[] sills = {null, "n2r0w0d1", "n5r5w5d5", "n3r1w1"};
        for (int run = 0; run < 40; run++) {
            FlowerPots pots = new FlowerPots();
            String sill = sills[run % sills.length];
            if (sill != null) {
                Checks.text(pots, 0, sill);
            }
            Checks.text(pots, 1, "a=r?;b=?w;c=..");
            Checks.text(pots, 2, "abcabcab");
            Checks.text(pots, 3, "y:p/[d-d]+s*9999*9999*9999");
            pots.light(run % 2 - 1);
            for (int call = 0; call < 480; call++) {
                Method method = methods[random.nextInt(methods.length)];
                if (Modifier.isPublic(method.getModifiers())) {
                    oddCall(pots, method, random);
                }
            }
        }
    }

    private static void oddCall(FlowerPots pots, Method method, Random random) throws Exception {
        Class<?>[] types = method.getParameterTypes();
        Object[] arguments = new Object[types.length];
        for (int i = 0; i < types.length; i++) {
            int odd = random.nextInt(3) == 0 ? ODD[random.nextInt(ODD.length)] : random.nextInt(4);
            arguments[i] = types[i] == boolean.class ? (Object) (odd % 2 == 0)
                : types[i] == long.class ? (Object) (odd * 0x123456789ABCDL) : (Object) odd;
        }
        boolean ended = true;
        try {
            method.invoke(pots, arguments);
        } catch (InvocationTargetException e) {
            ended = method.getName().equals("at") && e.getCause() instanceof NoSuchElementException;
        }
        Checks.due(method.getName() + Arrays.toString(arguments), ended, true);
    }
}
