import java.lang.reflect.Constructor;
import java.lang.reflect.Field;
import java.lang.reflect.Method;
import java.lang.reflect.Modifier;
import java.util.ArrayList;
import java.util.List;
import java.util.TreeSet;

/** The face of the class is that of the document, and no arguments make a call throw. */
public final class FaceTest {
    private static final String[] CALLS = {"verse 3", "season 3", "order 2", "lay 3", "clear 1", "sell 1", "sellTwo 2",
        "giveBack 0", "pass 1", "set 2", "verseOf 2", "slotOf 2", "orderOf 2", "occasionOf 2", "together 2", "would 2",
        "bestSlot 1", "partner 1", "lasts 1", "count 1", "undo 0", "type 1", "clearText 0", "fault 1", "play 0"};
    private static final int[] VALUES = {0, 1, 5, 11, 12, 40, 60, -1, 118, 359, 1000,
        Integer.MAX_VALUE, Integer.MIN_VALUE, 1 << 16, 1 << 30};

    private static int wrong = 0;

    public static void main(String[] args) throws ReflectiveOperationException {
        Checks.begin("FaceTest");
        Checks.watch();
        modifiers();
        calls();
        constants();
        privateNames();
        sizes();
        neverThrows();
        System.out.println(wrong == 0 ? "FaceTest: all is as due" : "FaceTest: " + wrong + " are not as due");
        if (wrong != 0) {
            System.exit(1);
        }
    }

    private static void due(String what, Object got, Object want) {
        if (!got.equals(want)) {
            wrong++;
            System.out.println(what + ": " + got + ", due is " + want);
        }
    }

    private static void modifiers() {
        due("class", Modifier.toString(CardRacks.class.getModifiers()), "public final");
        Constructor<?>[] made = CardRacks.class.getDeclaredConstructors();
        due("constructors", made.length, 1);
        due("constructor", made[0].toString(), "public CardRacks()");
        for (Class<?> inside : CardRacks.class.getDeclaredClasses()) {
            boolean open = Modifier.isPublic(inside.getModifiers()) || Modifier.isProtected(inside.getModifiers());
            due(inside + " is open", open, false);
            due(inside + " is static", Modifier.isStatic(inside.getModifiers()), true);
        }
    }

    private static void calls() {
        TreeSet<String> got = new TreeSet<>();
        for (Method method : CardRacks.class.getDeclaredMethods()) {
            if (!Modifier.isPrivate(method.getModifiers())) {
                due(method.getName(), Modifier.toString(method.getModifiers()), "public");
                due(method.getName() + " answers", method.getReturnType(), int.class);
                for (Class<?> type : method.getParameterTypes()) {
                    due(method.getName() + " takes", type, int.class);
                }
                got.add(method.getName() + " " + method.getParameterCount());
            }
        }
        due("calls", got, new TreeSet<>(List.of(CALLS)));
    }

    private static void constants() throws ReflectiveOperationException {
        TreeSet<String> got = new TreeSet<>();
        for (Field field : CardRacks.class.getDeclaredFields()) {
            if (!Modifier.isPrivate(field.getModifiers())) {
                due(field.getName(), field.toString(), "public static final int CardRacks." + field.getName());
                got.add(field.getName() + " " + field.getInt(null));
            }
        }
        due("constants", got, new TreeSet<>(List.of("INVALID_ARGUMENT -1000001", "NOT_POSSIBLE -1000002",
                "LIMIT_REACHED -1000003", "NOT_FOUND -1000004")));
    }

    private static void privateNames() {
        TreeSet<String> open = new TreeSet<>();
        List<Method> hidden = new ArrayList<>();
        for (Method method : CardRacks.class.getDeclaredMethods()) {
            if (Modifier.isPublic(method.getModifiers())) {
                open.add(method.getName());
            } else {
                hidden.add(method);
            }
        }
        for (Class<?> inside : CardRacks.class.getDeclaredClasses()) {
            hidden.addAll(List.of(inside.getDeclaredMethods()));
        }
        for (Method method : hidden) {
            due(method + " bears a public name", open.contains(method.getName()), false);
        }
    }

    /** LANGUAGE.md, rules 5 and 11: static fields are final, and classes and calls stay small. */
    private static void sizes() {
        List<Class<?>> classes = new ArrayList<>(List.of(CardRacks.class.getDeclaredClasses()));
        classes.add(CardRacks.class);
        due("at most twelve classes", classes.size() <= 12, true);
        for (Class<?> each : classes) {
            int fields = 0;
            for (Field field : each.getDeclaredFields()) {
                boolean fixed = Modifier.isStatic(field.getModifiers());
                due(field + " is static and not final", fixed && !Modifier.isFinal(field.getModifiers()), false);
                fields += fixed ? 0 : 1;
            }
            due(each + " has at most twenty fields", fields <= 20, true);
            for (Method method : each.getDeclaredMethods()) {
                due(method + " takes at most seven parameters", method.getParameterCount() <= 7, true);
            }
        }
    }

    /** All arguments out of VALUES, on a new object and on ones in which much has happened. */
    private static void neverThrows() throws ReflectiveOperationException {
        for (int kind = 0; kind < 3; kind++) {
            for (Method method : CardRacks.class.getDeclaredMethods()) {
                if (Modifier.isPublic(method.getModifiers())) {
                    callAll(kind, method, new Object[method.getParameterCount()], 0);
                }
            }
        }
    }

    private static void callAll(int kind, Method method, Object[] values, int set)
            throws ReflectiveOperationException {
        if (set < values.length) {
            for (int value : VALUES) {
                values[set] = value;
                callAll(kind, method, values, set + 1);
            }
            return;
        }
        try {
            method.invoke(object(kind), values);
        } catch (java.lang.reflect.InvocationTargetException thrown) {
            due(method.getName() + " " + List.of(values), thrown.getCause().toString(), "no exception");
        }
    }

    private static CardRacks object(int kind) {
        CardRacks x = new CardRacks();
        if (kind > 0) {
            x.set(0, kind - 1);
            for (int i = 0; i < 12; i++) {
                x.verse(i % 5, 99, 99);
                x.order(i, 999);
                x.lay(i % 10, i, 12);
            }
            x.sellTwo(0, 11);
            write(x, kind == 1 ? "d99;s11;v9" : "o999,999;");
        }
        return x;
    }

    private static void write(CardRacks x, String text) {
        for (int i = 0; i < text.length(); i++) {
            x.type(text.charAt(i));
        }
    }
}
