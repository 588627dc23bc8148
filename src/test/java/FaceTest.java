import java.lang.reflect.Constructor;
import java.lang.reflect.Field;
import java.lang.reflect.Method;
import java.lang.reflect.Modifier;
import java.nio.charset.StandardCharsets;
import java.nio.file.Files;
import java.nio.file.Path;
import java.util.ArrayList;
import java.util.List;
import java.util.Set;
import java.util.TreeSet;
import java.util.regex.Matcher;
import java.util.regex.Pattern;

/** The face is the document's, and the source keeps to LANGUAGE.md as far as a text shows it. */
public final class FaceTest {
    private static int wrong;

    private static void check(boolean right, String what) {
        if (!right) {
            wrong++;
            System.out.println(what);
        }
    }

    private static String signature(Method m) {
        List<String> types = new ArrayList<>();
        for (Class<?> c : m.getParameterTypes()) {
            types.add(c.getName());
        }
        return m.getReturnType().getName() + " " + m.getName() + types;
    }

    /** The methods as the document's first block of Java tells them. */
    private static Set<String> promised(String doc) {
        String block = doc.substring(doc.indexOf("```java"), doc.indexOf("## Terms"));
        Matcher m = Pattern.compile("public (int|long) (\\w+)\\((.*?)\\);").matcher(block);
        Set<String> all = new TreeSet<>();
        while (m.find()) {
            List<String> types = new ArrayList<>();
            for (String p : m.group(3).isEmpty() ? new String[0] : m.group(3).split(", ")) {
                types.add(p.split(" ")[0]);
            }
            all.add(m.group(1) + " " + m.group(2) + types);
        }
        return all;
    }

    private static void checkFace(String doc) {
        Class<?> c = LatePrices.class;
        check(Modifier.isFinal(c.getModifiers()) && Modifier.isPublic(c.getModifiers()), "final");
        Set<String> face = new TreeSet<>();
        Set<String> names = new TreeSet<>();
        for (Method m : c.getDeclaredMethods()) {
            if (Modifier.isPublic(m.getModifiers())) {
                face.add(signature(m));
                names.add(m.getName());
            } else {
                check(Modifier.isPrivate(m.getModifiers()), m + " is not private");
            }
        }
        check(face.equals(promised(doc)), "the face is " + face + ", due is " + promised(doc));
        check(face.size() == 40 - 1, "there are " + face.size() + " methods");
        Constructor<?>[] made = c.getDeclaredConstructors();
        check(made.length == 1 && made[0].getParameterCount() == 0
                && Modifier.isPublic(made[0].getModifiers()), "the constructor");
        for (Method m : c.getDeclaredMethods()) {
            check(Modifier.isPublic(m.getModifiers()) || !names.contains(m.getName()), m + "");
        }
        for (Class<?> inside : c.getDeclaredClasses()) {
            check(Modifier.isStatic(inside.getModifiers()), inside + " is not static");
            check(!Modifier.isPublic(inside.getModifiers()), inside + " is public");
            for (Method m : inside.getDeclaredMethods()) {
                check(!names.contains(m.getName()), m + " bears a name of the face");
                check(m.getParameterCount() <= 7, m + " takes too many");
            }
            checkFields(inside);
        }
        check(c.getDeclaredClasses().length + 1 <= 12, "too many classes");
        checkFields(c);
    }

    private static void checkFields(Class<?> c) {
        Set<String> constants = Set.of("BAD", "STATE", "FULL", "NONE");
        int fields = 0;
        for (Field f : c.getDeclaredFields()) {
            int mod = f.getModifiers();
            if (Modifier.isStatic(mod)) {
                check(Modifier.isFinal(mod) && f.getType().isPrimitive(), f + "");
            } else {
                fields++;
            }
            if (c == LatePrices.class) {
                boolean face = constants.contains(f.getName());
                check(face ? Modifier.isPublic(mod) : Modifier.isPrivate(mod), f + " is not private");
            }
        }
        check(fields <= 20, c + " has " + fields + " fields");
    }

    private static String withoutComments(String source) {
        return source.replaceAll("(?s)/\\*.*?\\*/", "").replaceAll("//[^\n]*", "")
                .replaceAll("\"[^\"]*\"", "\"\"").replaceAll("'[^']*'", "' '");
    }

    private static void checkSource(String source) {
        String code = withoutComments(source);
        for (String word : new String[] {"throw", "throws", "try", "catch", "finally", "synchronized",
            "assert", "package", "protected", "volatile", "native", "var", "yield", "double", "float",
            "Object", "equals", "hashCode", "toString", "System.out", "Thread", "Random"}) {
            check(!Pattern.compile("\\b" + Pattern.quote(word) + "\\b").matcher(code).find(),
                    "the source has " + word);
        }
        for (String sign : new String[] {"->", "::", "Exact", "@"}) {
            check(!code.contains(sign), "the source has " + sign);
        }
        for (char c : source.toCharArray()) {
            check(c == '\n' || c >= 32 && c < 127, "the source has the sign " + (int) c);
        }
        Matcher imports = Pattern.compile("import ([^;]*);").matcher(code);
        while (imports.find()) {
            check(imports.group(1).equals("java.util.Arrays"), imports.group());
        }
        // Rooms are made where an object is made, never by a call.
        for (String line : code.split("\n")) {
            boolean made = line.matches("    (    )?(private )?final .* = new .*;")
                    || line.matches("            (images|sheets)\\[k\\] = new \\w+\\(\\w*\\);")
                    || line.matches("            cells = new int\\[this.most \\* this.width\\];");
            check(!line.contains("new ") || made, "made by a call: " + line);
        }
        checkLengths(code);
    }

    private static void checkLengths(String code) {
        int start = -1;
        String[] lines = code.split("\n");
        String closing = "";
        for (int i = 0; i < lines.length; i++) {
            Matcher head = Pattern.compile("^((    ){1,2})\\S.*\\)? \\{$").matcher(lines[i]);
            boolean isClass = lines[i].contains(" class ");
            if (start < 0 && !isClass && head.find()) {
                start = i;
                closing = head.group(1) + "}";
            } else if (start >= 0 && lines[i].equals(closing)) {
                check(i - start < 60, "too long: " + lines[start]);
                start = -1;
            }
            check(lines[i].length() <= 100, "too wide: " + lines[i]);
        }
    }

    public static void main(String[] args) throws Exception {
        Path root = Path.of(args.length > 0 ? args[0] : ".");
        checkFace(Files.readString(root.resolve("../shared/DOC.md"), StandardCharsets.UTF_8));
        checkSource(Files.readString(root.resolve("src/main/java/LatePrices.java"),
                StandardCharsets.ISO_8859_1));
        System.out.println(wrong == 0 ? "the face and the source are as told" : wrong + " faults");
        if (wrong != 0) {
            System.exit(1);
        }
    }
}
