import java.io.ByteArrayInputStream;
import java.io.DataInputStream;
import java.io.IOException;
import java.io.InputStream;
import java.util.ArrayList;
import java.util.List;
import java.util.Map;
import java.util.Set;
import java.util.TreeMap;
import java.util.TreeSet;

/**
 * What LANGUAGE.md asks and javac's class files tell: the library (4), statics (5), nothing thrown
 * or caught (6), who may call itself (8), seven parameters and calls eight deep (11).
 */
public final class LanguageTest {
    private static final Set<String> LIBRARY = Set.of("java/lang/Object.<init>", "java/lang/String.length",
        "java/lang/String.charAt", "java/lang/Math.max", "java/lang/Math.min", "java/lang/Integer.bitCount",
        "java/lang/System.arraycopy");
    private static final int DEEPEST = 8;

    /** Each method of the class and of those inside it, by class and name, with all that it calls. */
    private static final Map<String, Set<String>> CALLS = new TreeMap<>();
    private static final Set<String> PRIVATE_STATIC = new TreeSet<>();
    private static final Set<String> OF_THE_FACE = new TreeSet<>();

    public static void main(String[] args) throws IOException {
        read(BandPark.class);
        for (Class<?> inside : BandPark.class.getDeclaredClasses()) {
            read(inside);
        }
        Check.yes("methods were found: " + CALLS.size(), CALLS.size() > 150 && OF_THE_FACE.size() == 59);
        for (Map.Entry<String, Set<String>> method : CALLS.entrySet()) {
            for (String called : method.getValue()) {
                boolean known = CALLS.containsKey(called) || LIBRARY.contains(called);
                Check.yes("rule 4: " + method.getKey() + " calls " + called, known);
            }
            boolean callsItself = method.getValue().contains(method.getKey());
            Check.yes("rule 8: " + method.getKey(), !callsItself || PRIVATE_STATIC.contains(method.getKey()));
        }
        for (String method : OF_THE_FACE) {
            List<String> way = deepest(method, new ArrayList<>());
            Check.yes("rule 11: calls too deep " + way, way.size() <= DEEPEST);
        }
        Check.end();
    }

    /** The longest chain of calls from a method on, library and calls of itself not counted. */
    private static List<String> deepest(String method, List<String> open) {
        List<String> way = new ArrayList<>(List.of(method));
        open.add(method);
        for (String called : CALLS.getOrDefault(method, Set.of())) {
            if (called.equals(method) || !CALLS.containsKey(called)) {
                continue;
            }
            Check.yes("rule 8: a ring of calls " + open + " to " + called, !open.contains(called));
            if (open.contains(called)) {
                continue;
            }
            List<String> further = deepest(called, open);
            if (further.size() >= way.size()) {
                way = new ArrayList<>(List.of(method));
                way.addAll(further);
            }
        }
        open.remove(open.size() - 1);
        return way;
    }

    private static void read(Class<?> c) throws IOException {
        String name = c.getName();
        try (InputStream file = c.getResourceAsStream("/" + name + ".class")) {
            Check.yes("a class file of " + name, file != null);
            if (file != null) {
                new Reader(name, new DataInputStream(new ByteArrayInputStream(file.readAllBytes()))).readAll();
            }
        }
    }

    /** Reads one class file, as far as it is asked for here. */
    private static final class Reader {
        private static final int PRIVATE = 2;
        private static final int PUBLIC = 1;
        private static final int STATIC = 8;
        private static final int FINAL = 16;

        private final String owner;
        private final DataInputStream in;
        private Object[] constants = new Object[0];

        Reader(String owner, DataInputStream in) {
            this.owner = owner;
            this.in = in;
        }

        void readAll() throws IOException {
            in.skipBytes(8);
            readConstants();
            in.skipBytes(6);
            in.skipBytes(2 * in.readUnsignedShort());
            int fields = in.readUnsignedShort();
            for (int i = 0; i < fields; i++) {
                int flags = in.readUnsignedShort();
                String field = owner + "." + textAt(in.readUnsignedShort());
                Check.yes("rule 3: " + field, isAllowed(textAt(in.readUnsignedShort())));
                Check.yes("rule 5: " + field, (flags & STATIC) == 0 || (flags & FINAL) != 0);
                skipAttributes();
            }
            int methods = in.readUnsignedShort();
            for (int i = 0; i < methods; i++) {
                readMethod();
            }
        }

        /** One dimension of anything of its own, two of numbers alone. */
        private static boolean isAllowed(String type) {
            String inner = type.replace("[", "");
            int dimensions = type.length() - inner.length();
            boolean isOwn = inner.startsWith("LBandPark") || inner.equals("Ljava/lang/String;");
            boolean isNumber = inner.length() == 1 && "IJSBC".contains(inner);
            return isNumber && dimensions <= 2 || (isOwn || inner.equals("Z")) && dimensions <= 1;
        }

        private void readMethod() throws IOException {
            int flags = in.readUnsignedShort();
            String name = textAt(in.readUnsignedShort());
            String method = owner + "." + name;
            in.skipBytes(2);
            Check.yes("rule 5: no static block in " + owner, !name.equals("<clinit>"));
            Check.yes("a name for one method alone: " + method, !CALLS.containsKey(method));
            Set<String> called = CALLS.computeIfAbsent(method, key -> new TreeSet<>());
            if ((flags & PRIVATE) != 0 && (flags & STATIC) != 0) {
                PRIVATE_STATIC.add(method);
            }
            if ((flags & PUBLIC) != 0 && owner.equals("BandPark") && !name.equals("<init>")) {
                OF_THE_FACE.add(method);
            }
            int attributes = in.readUnsignedShort();
            for (int i = 0; i < attributes; i++) {
                String attribute = textAt(in.readUnsignedShort());
                byte[] content = new byte[in.readInt()];
                in.readFully(content);
                if (attribute.equals("Code")) {
                    readCode(method, content, called);
                }
            }
        }

        private void readCode(String method, byte[] content, Set<String> called) throws IOException {
            DataInputStream code = new DataInputStream(new ByteArrayInputStream(content));
            code.skipBytes(4);
            byte[] bytes = new byte[code.readInt()];
            code.readFully(bytes);
            Check.yes("rule 6: nothing is caught in " + method, code.readUnsignedShort() == 0);
            int at = 0;
            while (at < bytes.length) {
                int op = bytes[at] & 255;
                boolean isWrong = op == 0xbf || op == 0xba || op == 0xc2 || op == 0xc3;
                Check.yes("rule 6, 2: operation " + op + " in " + method, !isWrong);
                if (op >= 0xb6 && op <= 0xb9) {
                    called.add((String) constants[(bytes[at + 1] & 255) << 8 | bytes[at + 2] & 255]);
                }
                at += lengthOf(bytes, at, op);
            }
        }

        private static int lengthOf(byte[] bytes, int at, int op) {
            int padded = at / 4 * 4 + 4;
            if (op == 0xaa) {
                return padded + 12 + 4 * (fourAt(bytes, padded + 8) - fourAt(bytes, padded + 4) + 1) - at;
            }
            if (op == 0xab) {
                return padded + 8 + 8 * fourAt(bytes, padded + 4) - at;
            }
            if (op == 0xc4) {
                return (bytes[at + 1] & 255) == 0x84 ? 6 : 4;
            }
            if (op == 0xb9 || op == 0xba || op == 0xc8 || op == 0xc9) {
                return 5;
            }
            boolean hasOne = op == 0x10 || op == 0x12 || op >= 0x15 && op <= 0x19 || op >= 0x36 && op <= 0x3a
                || op == 0xa9 || op == 0xbc;
            boolean hasTwo = op == 0x11 || op == 0x13 || op == 0x14 || op == 0x84 || op >= 0x99 && op <= 0xa8
                || op >= 0xb2 && op <= 0xb8 || op == 0xbb || op == 0xbd || op == 0xc0 || op == 0xc1
                || op == 0xc6 || op == 0xc7;
            return op == 0xc5 ? 4 : hasTwo ? 3 : hasOne ? 2 : 1;
        }

        private static int fourAt(byte[] bytes, int at) {
            return bytes[at] << 24 | (bytes[at + 1] & 255) << 16 | (bytes[at + 2] & 255) << 8 | bytes[at + 3] & 255;
        }

        private void skipAttributes() throws IOException {
            int attributes = in.readUnsignedShort();
            for (int i = 0; i < attributes; i++) {
                in.skipBytes(2);
                in.skipBytes(in.readInt());
            }
        }

        private String textAt(int i) {
            return (String) constants[i];
        }

        /** Texts as they are; a method as its class, a point and its name; the rest is left out. */
        private void readConstants() throws IOException {
            int many = in.readUnsignedShort();
            constants = new Object[many];
            int[] tags = new int[many];
            int[] first = new int[many];
            int[] second = new int[many];
            for (int i = 1; i < many; i++) {
                tags[i] = in.readUnsignedByte();
                switch (tags[i]) {
                    case 1: constants[i] = in.readUTF(); break;
                    case 5: case 6: in.skipBytes(8); i++; break;
                    case 7: case 8: case 16: case 19: case 20: first[i] = in.readUnsignedShort(); break;
                    case 3: case 4: in.skipBytes(4); break;
                    case 15: in.skipBytes(3); break;
                    default: first[i] = in.readUnsignedShort(); second[i] = in.readUnsignedShort();
                }
            }
            for (int i = 1; i < many; i++) {
                if (tags[i] == 10 || tags[i] == 11) {
                    constants[i] = constants[first[first[i]]] + "." + constants[first[second[i]]];
                }
            }
        }
    }
}
