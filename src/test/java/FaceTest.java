import java.io.IOException;
import java.lang.reflect.Array;
import java.lang.reflect.Constructor;
import java.lang.reflect.Field;
import java.lang.reflect.Method;
import java.lang.reflect.Modifier;
import java.nio.file.Files;
import java.nio.file.Path;
import java.util.ArrayDeque;
import java.util.Arrays;
import java.util.Collections;
import java.util.Deque;
import java.util.IdentityHashMap;
import java.util.List;
import java.util.Set;
import java.util.TreeSet;

/** The public face of the document, the rules of LANGUAGE.md that can be looked up, and the room an object takes. */
public final class FaceTest {
    private static final Check IS = new Check("the face");
    private static final String[] FACE = {
        "int put(int, int, int)", "int get(int, int)", "boolean begin(int, int)", "int read(int)", "int got(int, int)",
        "int rounds(int)", "boolean deliver(int, int, int)", "int serve(int, int)", "int flight(int, int)",
        "int sent(int, int, int)", "int pending(int, int)", "int lacks(int, int, int)", "int latest(int, int)",
        "boolean visible(int, int)", "int clock(int, int)", "int context(int, int)", "int nearest(int)",
        "int about(int, int)", "int dependency(int, int)",
    };
    private static final String[] OUTSIDE_THE_LANGUAGE = {
        "::", "finally", "synchronized", "assert ", "static {", "System.out", "System.err", "System.exit", "Math.random",
        "System.nano", "System.current", "hashCode", "Thread", "Exact(",
    };
    private static final List<String> LIBRARY = List.of("java.util.ArrayList", "java.util.Arrays", "java.util.Iterator",
            "java.util.List", "java.util.NoSuchElementException");
    // The room of all calls of one run.
    private static final int MOST_OBJECTS = 600_000;
    private static final int MOST_PARTS = 7_300_000;

    public static void main(String[] args) throws IOException, ReflectiveOperationException {
        constants();
        members();
        source();
        room();
        Check.finish();
    }

    private static void constants() {
        IS.due("BAD", -1, CausalStore.BAD);
        IS.due("BUSY", -2, CausalStore.BUSY);
        IS.due("FULL", -3, CausalStore.FULL);
        IS.due("NONE", -4, CausalStore.NONE);
    }

    private static String signature(Method method) {
        String types = Arrays.toString(method.getParameterTypes());
        return method.getReturnType() + " " + method.getName() + "(" + types.substring(1, types.length() - 1) + ")";
    }

    private static void members() {
        Set<String> open = new TreeSet<>();
        Set<String> openNames = new TreeSet<>();
        for (Method method : CausalStore.class.getDeclaredMethods()) {
            if (!Modifier.isPrivate(method.getModifiers())) {
                IS.due(method + " is public", true, Modifier.isPublic(method.getModifiers()));
                open.add(signature(method));
                openNames.add(method.getName());
            }
        }
        IS.due("methods " + open, true, open.equals(new TreeSet<>(Arrays.asList(FACE))));
        for (Method method : CausalStore.class.getDeclaredMethods()) {
            boolean hidden = Modifier.isPrivate(method.getModifiers());
            IS.due(method + " has a name of its own", false, hidden && openNames.contains(method.getName()));
        }
        int constants = 0;
        for (Field field : CausalStore.class.getDeclaredFields()) {
            if (!Modifier.isPrivate(field.getModifiers())) {
                IS.due(field + " is a constant", true, field.toString().startsWith("public static final int "));
                constants++;
            }
            if (Modifier.isStatic(field.getModifiers())) {
                IS.due(field + " is final", true, Modifier.isFinal(field.getModifiers()));
            }
        }
        IS.due("constants", 4, constants);
        Constructor<?>[] constructors = CausalStore.class.getDeclaredConstructors();
        IS.due("constructors", 1, constructors.length);
        IS.due("its parameters", 0, constructors[0].getParameterCount());
        IS.due("it is public", true, Modifier.isPublic(constructors[0].getModifiers()));
        IS.due("the class is public and final", Modifier.PUBLIC | Modifier.FINAL, CausalStore.class.getModifiers());
        for (Class<?> inside : CausalStore.class.getDeclaredClasses()) {
            IS.due(inside + " is static", true, Modifier.isStatic(inside.getModifiers()));
            IS.due(inside + " is open", false, (inside.getModifiers() & (Modifier.PUBLIC | Modifier.PROTECTED)) != 0);
        }
    }

    private static void source() throws IOException {
        String source = Files.readString(Path.of("src/main/java/CausalStore.java"));
        String code = source.replaceAll("(?s)/\\*.*?\\*/", "").replaceAll("//[^\n]*", "");
        for (String word : OUTSIDE_THE_LANGUAGE) {
            IS.due("'" + word + "' in the code", false, code.contains(word));
        }
        for (String line : code.split("\n")) {
            String text = line.trim();
            if (text.startsWith("import ")) {
                IS.due(text, true, LIBRARY.contains(text.substring("import ".length(), text.length() - 1)));
            }
            boolean ofSwitch = text.startsWith("case ") || text.startsWith("default");
            IS.due("a lambda: " + text, false, text.contains("->") && !ofSwitch);
            IS.due("a package: " + text, false, text.startsWith("package "));
        }
    }

    private static void room() throws ReflectiveOperationException {
        CausalStore x = new CausalStore();
        for (int write = 0; write < 40; write++) {
            x.put(write % 6, write % 5, write);
        }
        for (int client = 0; client < 6; client++) {
            x.begin(client, 63);
            for (int key = 0; key < 6; key++) {
                x.read(client);
            }
        }
        long[] after = room(x);
        System.out.println("an object's room: " + after[0] + " objects and arrays, " + after[1] + " fields and elements");
        IS.due("objects of a run", true, after[0] < MOST_OBJECTS);
        IS.due("fields and elements of a run", true, after[1] < MOST_PARTS);
    }

    /** How many objects and arrays hang on an object, and how many fields and elements they have. */
    private static long[] room(Object root) throws ReflectiveOperationException {
        Set<Object> known = Collections.newSetFromMap(new IdentityHashMap<>());
        Deque<Object> open = new ArrayDeque<>();
        known.add(root);
        open.add(root);
        long parts = 0;
        while (!open.isEmpty()) {
            Object object = open.remove();
            if (object.getClass().isArray()) {
                int length = Array.getLength(object);
                parts += length;
                for (int i = 0; i < length && !object.getClass().getComponentType().isPrimitive(); i++) {
                    note(Array.get(object, i), known, open);
                }
                continue;
            }
            for (Field field : object.getClass().getDeclaredFields()) {
                if (Modifier.isStatic(field.getModifiers())) {
                    continue;
                }
                parts++;
                if (!field.getType().isPrimitive()) {
                    field.setAccessible(true);
                    note(field.get(object), known, open);
                }
            }
        }
        return new long[] {known.size(), parts};
    }

    private static void note(Object object, Set<Object> known, Deque<Object> open) {
        if (object != null && known.add(object)) {
            open.add(object);
        }
    }
}
