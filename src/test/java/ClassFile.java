import java.io.DataInputStream;
import java.io.IOException;
import java.nio.file.Files;
import java.nio.file.Path;
import java.util.ArrayList;
import java.util.List;

/** What the compiler made of a class: its methods and what they do, as far as FormTest looks at it. */
final class ClassFile {
    static final int DIVIDE_INT = 108, DIVIDE_LONG = 109, REST_INT = 112, REST_LONG = 113;
    static final int PUT_STATIC = 179, INVOKE_FIRST = 182, INVOKE_DYNAMIC = 186, NEW = 187;
    static final int NEW_NUMBERS = 188, NEW_OBJECTS = 189, THROW = 191, CAST = 192, IS_OF = 193;
    static final int LOCK = 194, UNLOCK = 195, WIDE = 196, NEW_OF_MORE = 197;
    private static final int GET_STATIC = 178, TABLE_SWITCH = 170, LOOKUP_SWITCH = 171, ADD_TO = 132;

    /** An instruction; what it names, where it names something of a class. */
    record Deed(int code, String named) {
        boolean calls() {
            return code >= INVOKE_FIRST && code < INVOKE_DYNAMIC;
        }

        boolean makes() {
            return code == NEW || code == NEW_NUMBERS || code == NEW_OBJECTS || code == NEW_OF_MORE;
        }
    }

    /** A method: "Owner.name", with the types that it takes and answers. */
    record Body(String name, boolean isPublic, int handlers, List<Deed> deeds) {
    }

    final List<Body> bodies = new ArrayList<>();
    private final DataInputStream in;
    private Object[] pool = new Object[0];
    private String owner = "";

    private ClassFile(DataInputStream in) {
        this.in = in;
    }

    static ClassFile of(Path file) throws IOException {
        try (DataInputStream in = new DataInputStream(Files.newInputStream(file))) {
            ClassFile c = new ClassFile(in);
            in.readInt();
            in.readInt();
            c.readPool();
            in.readUnsignedShort();
            c.owner = c.text(in.readUnsignedShort());
            in.readUnsignedShort();
            c.skip(2 * in.readUnsignedShort());
            c.readMembers(false);
            c.readMembers(true);
            return c;
        }
    }

    private void skip(int n) throws IOException {
        in.readNBytes(n);
    }

    private void readPool() throws IOException {
        pool = new Object[in.readUnsignedShort()];
        for (int i = 1; i < pool.length; i++) {
            int tag = in.readUnsignedByte();
            switch (tag) {
                case 1 -> pool[i] = in.readUTF();
                case 3, 4 -> skip(4);
                case 5, 6 -> {
                    skip(8);
                    i++;
                }
                case 7, 8, 16, 19, 20 -> pool[i] = new int[] {in.readUnsignedShort()};
                case 15 -> skip(3);
                default -> pool[i] = new int[] {in.readUnsignedShort(), in.readUnsignedShort()};
            }
        }
    }

    /** What an entry names: a class, or a member with its class and its types. */
    private String text(int i) {
        if (!(pool[i] instanceof int[] parts)) {
            return String.valueOf(pool[i]);
        }
        return parts.length == 1 ? text(parts[0]) : text(parts[0]) + "." + nameAndTypes(parts[1]);
    }

    private String nameAndTypes(int i) {
        int[] parts = (int[]) pool[i];
        return text(parts[0]) + text(parts[1]);
    }

    private void readMembers(boolean methods) throws IOException {
        int n = in.readUnsignedShort();
        for (int i = 0; i < n; i++) {
            boolean isPublic = (in.readUnsignedShort() & 1) != 0;
            String name = owner + "." + text(in.readUnsignedShort()) + text(in.readUnsignedShort());
            int attributes = in.readUnsignedShort();
            for (int a = 0; a < attributes; a++) {
                String kind = text(in.readUnsignedShort());
                byte[] bytes = in.readNBytes(in.readInt());
                if (methods && kind.equals("Code")) {
                    bodies.add(body(name, isPublic, bytes));
                }
            }
        }
    }

    private static int two(byte[] b, int i) {
        return (b[i] & 255) << 8 | b[i + 1] & 255;
    }

    private static int four(byte[] b, int i) {
        return two(b, i) << 16 | two(b, i + 2);
    }

    private Body body(String name, boolean isPublic, byte[] b) {
        int start = 8;
        int end = start + four(b, 4);
        List<Deed> deeds = new ArrayList<>();
        for (int i = start; i < end; i += length(b, i, start)) {
            int code = b[i] & 255;
            boolean names = code >= GET_STATIC && code <= NEW || code == NEW_OBJECTS || code == CAST
                    || code == IS_OF || code == NEW_OF_MORE;
            deeds.add(new Deed(code, names ? text(two(b, i + 1)) : ""));
        }
        return new Body(name, isPublic, two(b, end), deeds);
    }

    private static int length(byte[] b, int i, int start) {
        int code = b[i] & 255;
        if (code == TABLE_SWITCH || code == LOOKUP_SWITCH) {
            int rows = i + 4 - (i - start) % 4;
            return code == TABLE_SWITCH ? rows - i + 12 + 4 * (four(b, rows + 8) - four(b, rows + 4) + 1)
                    : rows - i + 8 + 8 * four(b, rows + 4);
        }
        if (code == WIDE) {
            return (b[i + 1] & 255) == ADD_TO ? 6 : 4;
        }
        if (code == 185 || code == INVOKE_DYNAMIC || code == 200 || code == 201) {
            return 5;
        }
        if (code == NEW_OF_MORE) {
            return 4;
        }
        if (code == 17 || code == 19 || code == 20 || code == ADD_TO || code >= 153 && code <= 168
                || code >= GET_STATIC && code <= 184 || code == NEW || code == NEW_OBJECTS
                || code == CAST || code == IS_OF || code == 198 || code == 199) {
            return 3;
        }
        boolean two = code == 16 || code == 18 || code >= 21 && code <= 25 || code >= 54 && code <= 58
                || code == 169 || code == NEW_NUMBERS;
        return two ? 2 : 1;
    }
}
