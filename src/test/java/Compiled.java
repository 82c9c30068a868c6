import java.io.ByteArrayInputStream;
import java.io.DataInputStream;
import java.io.IOException;
import java.util.Map;
import java.util.Set;
import java.util.TreeMap;
import java.util.TreeSet;

/**
 * A compiled class, as far as the language rules need it: what its methods call and make. The numbers of
 * constants and operations are those of the Java machine's specification (chapters 4 and 6).
 */
final class Compiled {

    /** What one method does. */
    static final class Body {
        /** Class and method, as PermissionDesk$Judge.decide. */
        final Set<String> calls = new TreeSet<>();
        /** Classes, or "array". */
        final Set<String> makes = new TreeSet<>();
        /** As lambdas, and texts that are joined by +, need. */
        boolean hasDynamicCalls = false;
    }

    private final DataInputStream in;
    private final Map<String, Body> bodies;
    private String name;
    private int[] firsts;
    private int[] seconds;
    private String[] texts;

    private Compiled(DataInputStream in, Map<String, Body> bodies) {
        this.in = in;
        this.bodies = bodies;
    }

    /** All methods of the class and of those inside it, by class and name. */
    static Map<String, Body> methodsOf(Class<?> type) throws IOException {
        Map<String, Body> bodies = new TreeMap<>();
        read(type, bodies);
        for (Class<?> inside : type.getDeclaredClasses()) {
            read(inside, bodies);
        }
        return bodies;
    }

    private static void read(Class<?> type, Map<String, Body> bodies) throws IOException {
        try (DataInputStream in = new DataInputStream(type.getResourceAsStream(type.getName() + ".class"))) {
            new Compiled(in, bodies).read();
        }
    }

    private void read() throws IOException {
        in.skipNBytes(8);
        readConstants();
        in.skipNBytes(2);
        name = texts[firsts[in.readUnsignedShort()]];
        in.skipNBytes(2);
        in.skipNBytes(2L * in.readUnsignedShort());
        readMembers(false);
        readMembers(true);
    }

    private void readConstants() throws IOException {
        int count = in.readUnsignedShort();
        firsts = new int[count];
        seconds = new int[count];
        texts = new String[count];
        for (int i = 1; i < count; i++) {
            switch (in.readUnsignedByte()) {
                case 1 -> texts[i] = in.readUTF();
                case 3, 4 -> in.skipNBytes(4);
                case 5, 6 -> {
                    in.skipNBytes(8);
                    i++;
                }
                case 7, 8, 16, 19, 20 -> firsts[i] = in.readUnsignedShort();
                case 15 -> in.skipNBytes(3);
                default -> {
                    firsts[i] = in.readUnsignedShort();
                    seconds[i] = in.readUnsignedShort();
                }
            }
        }
    }

    private void readMembers(boolean areMethods) throws IOException {
        for (int left = in.readUnsignedShort(); left > 0; left--) {
            in.skipNBytes(2);
            String member = texts[in.readUnsignedShort()];
            in.skipNBytes(2);
            Body body = areMethods ? bodies.computeIfAbsent(name + "." + member, key -> new Body()) : new Body();
            for (int attributes = in.readUnsignedShort(); attributes > 0; attributes--) {
                String attribute = texts[in.readUnsignedShort()];
                byte[] bytes = in.readNBytes(in.readInt());
                if (attribute.equals("Code")) {
                    readCode(new DataInputStream(new ByteArrayInputStream(bytes)), body);
                }
            }
        }
    }

    private void readCode(DataInputStream from, Body body) throws IOException {
        from.skipNBytes(4);
        byte[] code = from.readNBytes(from.readInt());
        for (int at = 0; at < code.length; at += 1 + operands(code, at)) {
            look(code, at, body);
        }
    }

    private void look(byte[] code, int at, Body body) {
        int op = code[at] & 255;
        if (op >= 182 && op <= 185) {
            int reference = two(code, at + 1);
            int called = seconds[reference];
            body.calls.add(texts[firsts[firsts[reference]]] + "." + texts[firsts[called]]);
        } else if (op == 186) {
            body.hasDynamicCalls = true;
        } else if (op == 187) {
            body.makes.add(texts[firsts[two(code, at + 1)]]);
        } else if (op == 188 || op == 189 || op == 197) {
            body.makes.add("array");
        }
    }

    private static int two(byte[] code, int at) {
        return (code[at] & 255) << 8 | code[at + 1] & 255;
    }

    private static int four(byte[] code, int at) {
        return two(code, at) << 16 | two(code, at + 2);
    }

    /** How many bytes belong to an operation, behind its own one. */
    private static int operands(byte[] code, int at) {
        int op = code[at] & 255;
        if (op == 170 || op == 171) {
            int start = at + 4 - at % 4;
            int cases = op == 171 ? 2 * four(code, start + 4) : four(code, start + 8) - four(code, start + 4) + 2;
            return start - at - 1 + 8 + 4 * cases;
        }
        if (op == 196) {
            return (code[at + 1] & 255) == 132 ? 5 : 3;
        }
        if (op == 185 || op == 186 || op >= 200) {
            return 4;
        }
        if (op == 197) {
            return 3;
        }
        boolean hasTwo = op == 17 || op == 19 || op == 20 || op == 132 || op >= 153 && op <= 168
                || op >= 178 && op <= 184 || op == 187 || op == 189 || op == 192 || op == 193 || op >= 198;
        boolean hasOne = op == 16 || op == 18 || op >= 21 && op <= 25 || op >= 54 && op <= 58 || op == 169
                || op == 188;
        return hasTwo ? 2 : hasOne ? 1 : 0;
    }
}
