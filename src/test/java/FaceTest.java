import java.lang.reflect.Constructor;
import java.lang.reflect.Field;
import java.lang.reflect.InvocationTargetException;
import java.lang.reflect.Method;
import java.lang.reflect.Modifier;
import java.util.ArrayList;
import java.util.Arrays;
import java.util.Comparator;
import java.util.List;
import java.util.NoSuchElementException;
import java.util.Random;
import java.util.Set;
import java.util.TreeSet;

/** The public face is the document's, and no call throws but bride, whatever it is given. */
final class FaceTest {
    private static final Due due = new Due("FaceTest");
    private static final String FACE = "int feed(int,int,int,int,int);boolean end(int);int fault(int);int text(int);"
        + "int rule(int);int bride(int,int);int painter(int,int);boolean law(int);int flattery(int,int);"
        + "int shown(int,int,int);int paint(int,int);int pay(int,int);int threaten(int);int letter(int);int shoe(int);"
        + "int wed(int);int annul();int months(int);boolean bribes(int);int decades(int,long);int status(int);int undo();"
        + "int portrait(int,int);int fits(int);int belief(int,int);int likely(int,int);int sure(int,int);int next(int);"
        + "int apart(int);int worth(int,int);int chooses(int);int game(int,int,int,int,int,int);int rests(int,int,int,int);"
        + "int truth(int,int);int cheapest(int,int);int looks(int);int whose(int,int);int heads(int,int,int);"
        + "int matched(int);int most(int);int seen(int);int saves(int);int rivals(int);int affords(int);int told(int);"
        + "int image();int back();int count(int)";

    public static void main(String[] args) throws ReflectiveOperationException {
        constants();
        members();
        nested();
        anyArguments();
        due.finish();
    }

    private static void constants() {
        due.is("NONE", NinePortraits.NONE, -1);
        due.is("HIDDEN", NinePortraits.HIDDEN, -1000000);
    }

    private static String signature(Method method) {
        List<String> types = new ArrayList<>();
        for (Class<?> type : method.getParameterTypes()) {
            types.add(type.getName());
        }
        return method.getReturnType().getName() + " " + method.getName() + "(" + String.join(",", types) + ")";
    }

    private static void members() {
        Set<String> shown = new TreeSet<>();
        Set<String> names = new TreeSet<>();
        for (Method method : NinePortraits.class.getDeclaredMethods()) {
            if (Modifier.isPublic(method.getModifiers())) {
                shown.add(signature(method));
                names.add(method.getName());
            }
        }
        due.is("the methods of the face", shown.equals(new TreeSet<>(Arrays.asList(FACE.split(";")))), true);
        due.is("how many", shown.size(), 48);
        for (Method method : NinePortraits.class.getDeclaredMethods()) {
            boolean hidden = Modifier.isPrivate(method.getModifiers());
            due.is(method.getName() + " is public or private", hidden || Modifier.isPublic(method.getModifiers()), true);
            due.is(method.getName() + " bears a name of its own", hidden && names.contains(method.getName()), false);
        }
        for (Field field : NinePortraits.class.getDeclaredFields()) {
            boolean constant = field.getName().equals("NONE") || field.getName().equals("HIDDEN");
            due.is(field.getName() + " is hidden", Modifier.isPrivate(field.getModifiers()), !constant);
        }
        Constructor<?>[] constructors = NinePortraits.class.getDeclaredConstructors();
        due.is("one constructor", constructors.length, 1);
        due.is("without parameters", constructors[0].getParameterCount(), 0);
        due.is("final", Modifier.isFinal(NinePortraits.class.getModifiers()), true);
    }

    private static void nested() {
        List<Class<?>> classes = new ArrayList<>(Arrays.asList(NinePortraits.class.getDeclaredClasses()));
        due.is("some twelve classes", classes.size() <= 11, true);
        for (Class<?> each : classes) {
            int modifiers = each.getModifiers();
            due.is(each + " is static", Modifier.isStatic(modifiers), true);
            due.is(each + " is not public", Modifier.isPublic(modifiers) || Modifier.isProtected(modifiers), false);
        }
        classes.add(NinePortraits.class);
        for (Class<?> each : classes) {
            int fields = 0;
            for (Field field : each.getDeclaredFields()) {
                boolean fixed = Modifier.isStatic(field.getModifiers());
                fields += fixed ? 0 : 1;
                due.is(field + " is final", !fixed || Modifier.isFinal(field.getModifiers()), true);
            }
            due.is(each + " has some twenty fields at most", fields <= 20, true);
            for (Method method : each.getDeclaredMethods()) {
                due.is(method + " takes seven at most", method.getParameterCount() <= 7, true);
            }
        }
    }

    private static void anyArguments() throws ReflectiveOperationException {
        Method[] methods = Arrays.stream(NinePortraits.class.getDeclaredMethods())
            .filter(method -> Modifier.isPublic(method.getModifiers()))
            .sorted(Comparator.comparing(Method::getName)).toArray(Method[]::new);
        int[] edges = {Integer.MIN_VALUE, Integer.MIN_VALUE + 1, -1000000, -10, -9, -2, -1, 0, 0, 0, 1, 1, 2, 3, 4, 5,
            6, 9, 10, 12, 20, 21, 31, 32, 60, 61, 63, 64, 100, 240, 999, 1000, 1000000, Integer.MAX_VALUE};
        Random lot = new Random(7);
        for (int run = 0; run < 600; run++) {
            NinePortraits x = new NinePortraits();
            for (int call = 0; call < 512; call++) {
                if (lot.nextInt(60) == 0) {
                    x.end(0);
                    Due.feed(x, lot.nextBoolean() ? Texts.court(lot) : Texts.law(lot));
                    x.text(lot.nextInt(2));
                }
                Method method = methods[lot.nextInt(methods.length)];
                Object[] arguments = new Object[method.getParameterCount()];
                for (int i = 0; i < arguments.length; i++) {
                    int edge = edges[lot.nextInt(edges.length)];
                    arguments[i] = method.getParameterTypes()[i] == long.class ? (Object) lot.nextLong() : (Object) edge;
                }
                call(x, method, arguments);
            }
        }
    }

    private static void call(NinePortraits x, Method method, Object[] arguments) throws IllegalAccessException {
        boolean good = true;
        try {
            method.invoke(x, arguments);
        } catch (InvocationTargetException e) {
            good = method.getName().equals("bride") && e.getCause().getClass() == NoSuchElementException.class;
        }
        due.is(method.getName() + Arrays.toString(arguments) + " throws nothing of its own", good, true);
    }
}
