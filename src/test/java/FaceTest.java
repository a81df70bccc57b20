import java.lang.reflect.Constructor;
import java.lang.reflect.Field;
import java.lang.reflect.Method;
import java.lang.reflect.Modifier;
import java.util.Arrays;
import java.util.Random;
import java.util.Set;
import java.util.TreeSet;

/** The public face, and that no call throws, whatever it is given. */
public final class FaceTest {
    private static final String[] FACE = {
        "int write(int)", "int wipe()", "int fault()", "int lay()", "int person(int,int)", "int secret(int,int)",
        "int tell(int,int,int)", "int day()", "int undo()", "int gossip(int,int,int)", "int first(int)",
        "int reach(int,int)", "int all(int,int)", "int apart(int,int)", "int worth(int,int)", "int witness(int,int)",
        "int dismiss()", "int order(int)", "long confession(int,int,int,int,int)", "int seen(int,int,int)",
        "int forget()", "int kinds(int)", "int out(int,int,int)", "int year(int,int,int)", "int keep()", "int back()",
        "int count(int)"};

    public static void main(String[] args) throws ReflectiveOperationException {
        methods();
        others();
        wildCalls();
        Check.end();
    }

    private static void methods() {
        Set<String> found = new TreeSet<>();
        Set<String> names = new TreeSet<>();
        for (Method m : OlderByABlush.class.getDeclaredMethods()) {
            if (!Modifier.isPrivate(m.getModifiers())) {
                names.add(m.getName());
                found.add(shape(m));
                Check.due(m + " is public alone", m.getModifiers(), Modifier.PUBLIC);
            }
        }
        Check.same("the face", found.toString(), new TreeSet<>(Arrays.asList(FACE)).toString());
        for (Method m : OlderByABlush.class.getDeclaredMethods()) {
            boolean hidden = Modifier.isPrivate(m.getModifiers());
            Check.due("a private method named " + m.getName(), hidden && names.contains(m.getName()) ? 1 : 0, 0);
        }
    }

    private static String shape(Method m) {
        StringBuilder all = new StringBuilder();
        for (Class<?> type : m.getParameterTypes()) {
            all.append(all.length() == 0 ? "" : ",").append(type.getName());
        }
        return m.getReturnType().getName() + " " + m.getName() + "(" + all + ")";
    }

    private static void others() {
        Set<String> open = new TreeSet<>();
        for (Field f : OlderByABlush.class.getDeclaredFields()) {
            if (!Modifier.isPrivate(f.getModifiers())) {
                open.add(f.getName());
                Check.due(f + " is a public constant", f.getModifiers(),
                        Modifier.PUBLIC | Modifier.STATIC | Modifier.FINAL);
            }
        }
        Check.same("the constants", open.toString(), "[BAD, FULL, NO, NONE]");
        Check.due("BAD", OlderByABlush.BAD, -1);
        Check.due("NO", OlderByABlush.NO, -2);
        Check.due("FULL", OlderByABlush.FULL, -3);
        Check.due("NONE", OlderByABlush.NONE, -4);
        Constructor<?>[] makers = OlderByABlush.class.getDeclaredConstructors();
        Check.due("constructors", makers.length, 1);
        Check.due("of no parameters", makers[0].getParameterCount(), 0);
        Check.due("public", makers[0].getModifiers(), Modifier.PUBLIC);
        Check.due("final", Modifier.isFinal(OlderByABlush.class.getModifiers()) ? 1 : 0, 1);
        for (Class<?> inside : OlderByABlush.class.getDeclaredClasses()) {
            Check.due(inside + " is static", Modifier.isStatic(inside.getModifiers()) ? 1 : 0, 1);
            Check.due(inside + " is not public", inside.getModifiers() & (Modifier.PUBLIC | Modifier.PROTECTED), 0);
        }
    }

    /** What a call throws comes out of main and so fails the test. */
    private static void wildCalls() throws ReflectiveOperationException {
        Random random = new Random(7);
        Method[] methods = OlderByABlush.class.getDeclaredMethods();
        Arrays.sort(methods, (a, b) -> shape(a).compareTo(shape(b)));
        for (int run = 0; run < 400; run++) {
            OlderByABlush x = new OlderByABlush();
            for (int k = 0; k < 512; k++) {
                Method m = methods[random.nextInt(methods.length)];
                if (Modifier.isPublic(m.getModifiers())) {
                    m.invoke(x, wildNumbers(m.getParameterCount(), random));
                }
            }
        }
    }

    private static Object[] wildNumbers(int n, Random random) {
        Object[] numbers = new Object[n];
        for (int k = 0; k < n; k++) {
            switch (random.nextInt(8)) {
                case 0:
                    numbers[k] = random.nextInt();
                    break;
                case 1:
                    numbers[k] = random.nextBoolean() ? Integer.MAX_VALUE : Integer.MIN_VALUE;
                    break;
                case 2:
                    numbers[k] = random.nextInt(140) - 3;
                    break;
                default:
                    numbers[k] = random.nextInt(8) - 1;
                    break;
            }
        }
        return numbers;
    }
}
