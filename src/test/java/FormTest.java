import java.io.IOException;
import java.lang.reflect.Array;
import java.lang.reflect.Field;
import java.lang.reflect.Modifier;
import java.nio.file.Files;
import java.nio.file.Path;
import java.util.ArrayList;
import java.util.HashMap;
import java.util.HashSet;
import java.util.IdentityHashMap;
import java.util.List;
import java.util.Map;
import java.util.Set;
import java.util.stream.Collectors;
import java.util.stream.Stream;

/**
 * The program keeps to LANGUAGE.md, as far as what the compiler made of it shows this: the library
 * (rule 4), static state (5), nothing thrown or caught (6), how deep calls go (8, 11), where objects
 * are made and how many (12).
 */
public final class FormTest {
    private static final int DEEPEST = 8;
    private static final int MOST_OBJECTS = 100;
    private static final int MOST_ELEMENTS = 2500;
    /** Divisors there are constants, or were looked at: who adds a division says so here. */
    private static final Set<String> DIVIDING = Set.of("LatePrices$Waits.longestIn(III)I",
            "LatePrices$Worth.inLowestTerms(JJI)J", "LatePrices$Sheet.wholeSteps(II)I");
    private static final Set<String> LIBRARY = Set.of("java/lang/Object.<init>()V",
            "java/lang/Math.max(II)I", "java/lang/Math.max(JJ)J", "java/lang/Math.min(II)I",
            "java/lang/Math.abs(I)I", "java/lang/Math.abs(J)J", "java/lang/String.length()I",
            "java/lang/String.charAt(I)C", "java/util/Arrays.fill([II)V", "java/util/Arrays.fill([JJ)V",
            "java/lang/System.arraycopy(Ljava/lang/Object;ILjava/lang/Object;II)V");
    private static final Set<Integer> NEVER = Set.of(ClassFile.PUT_STATIC, ClassFile.INVOKE_DYNAMIC,
            ClassFile.THROW, ClassFile.CAST, ClassFile.IS_OF, ClassFile.LOCK, ClassFile.UNLOCK);
    private static final Set<Integer> DIVISIONS = Set.of(ClassFile.DIVIDE_INT, ClassFile.DIVIDE_LONG,
            ClassFile.REST_INT, ClassFile.REST_LONG);

    private final Map<String, ClassFile.Body> bodies = new HashMap<>();
    private final Map<String, Integer> depths = new HashMap<>();
    private int wrong;

    private void check(boolean right, String what) {
        if (!right) {
            wrong++;
            System.out.println(what);
        }
    }

    private void readAll(Path dir) throws IOException {
        List<Path> files;
        try (Stream<Path> all = Files.list(dir)) {
            files = all.filter(f -> f.getFileName().toString().matches("LatePrices(\\$.*)?\\.class"))
                    .collect(Collectors.toList());
        }
        for (Path file : files) {
            for (ClassFile.Body body : ClassFile.of(file).bodies) {
                bodies.put(body.name(), body);
            }
        }
        check(bodies.size() > 100, "only " + bodies.size() + " methods were found");
    }

    private void checkBody(ClassFile.Body body) {
        String name = body.name();
        boolean maker = name.contains(".<init>(");
        check(body.handlers() == 0, name + " catches something");
        check(!name.contains(".<clinit>("), name + " is there");
        for (ClassFile.Deed deed : body.deeds()) {
            check(!NEVER.contains(deed.code()), name + " does " + deed);
            check(maker || !deed.makes(), name + " makes an object: " + deed);
            check(DIVIDING.contains(name) || !DIVISIONS.contains(deed.code()), name + " divides");
            check(!deed.calls() || deed.named().startsWith("LatePrices")
                    || LIBRARY.contains(deed.named()), name + " uses " + deed.named());
        }
    }

    /** How deep calls go from a method on, itself counted; too many where it comes back to itself. */
    private int depth(String name, Set<String> open) {
        ClassFile.Body body = bodies.get(name);
        if (body == null) {
            check(!name.startsWith("LatePrices"), "there is no " + name);
            return 0;
        }
        if (!open.add(name)) {
            check(false, name + " comes back to itself");
            return DEEPEST;
        }
        Integer known = depths.get(name);
        int deepest = 0;
        if (known == null) {
            for (ClassFile.Deed deed : body.deeds()) {
                deepest = deed.calls() ? Math.max(deepest, depth(deed.named(), open)) : deepest;
            }
            depths.put(name, deepest + 1);
        }
        open.remove(name);
        return depths.get(name);
    }

    private void checkDepths() {
        int deepest = 0;
        for (String name : bodies.keySet()) {
            int depth = depth(name, new HashSet<>());
            check(depth <= DEEPEST, name + " goes " + depth + " deep");
            deepest = Math.max(deepest, depth);
        }
        System.out.println(bodies.size() + " methods, calls go " + deepest + " deep");
    }

    /** Objects and arrays that an object holds, itself among them, and their fields and elements. */
    private static int[] room(Object start) throws IllegalAccessException {
        IdentityHashMap<Object, Boolean> met = new IdentityHashMap<>();
        List<Object> all = new ArrayList<>(List.of(start));
        met.put(start, true);
        int elements = 0;
        for (int i = 0; i < all.size(); i++) {
            Object o = all.get(i);
            List<Object> parts = new ArrayList<>();
            if (o.getClass().isArray()) {
                for (int k = 0; k < Array.getLength(o); k++) {
                    parts.add(o.getClass().getComponentType().isPrimitive() ? null : Array.get(o, k));
                }
            } else {
                for (Field f : o.getClass().getDeclaredFields()) {
                    if (!Modifier.isStatic(f.getModifiers())) {
                        f.setAccessible(true);
                        parts.add(f.getType().isPrimitive() ? null : f.get(o));
                    }
                }
            }
            elements += parts.size();
            for (Object part : parts) {
                if (part != null && met.put(part, true) == null) {
                    all.add(part);
                }
            }
        }
        return new int[] {all.size(), elements};
    }

    private void checkRoom() throws IllegalAccessException {
        int[] room = room(new LatePrices());
        System.out.println("an object has " + room[0] + " objects, " + room[1] + " fields and elements");
        check(room[0] <= MOST_OBJECTS && room[1] <= MOST_ELEMENTS, "an object needs too much room");
    }

    public static void main(String[] args) throws Exception {
        FormTest test = new FormTest();
        Path made = Path.of(LatePrices.class.getProtectionDomain().getCodeSource().getLocation().toURI());
        test.readAll(made);
        test.bodies.values().forEach(test::checkBody);
        test.checkDepths();
        test.checkRoom();
        if (test.wrong != 0) {
            System.exit(1);
        }
    }
}
