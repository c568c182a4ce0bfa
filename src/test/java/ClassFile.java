import java.io.ByteArrayInputStream;
import java.io.DataInputStream;
import java.io.IOException;
import java.util.ArrayList;
import java.util.List;

/** What javac made of a class, as far as the rules of LANGUAGE.md ask for it. */
final class ClassFile {
    /** A method: what it calls, with which instructions, and over how many lines it goes. */
    static final class Body {
        String name;
        String type;
        int flags;
        int lines = 0;
        int handlers = 0;
        /** The instructions' numbers, and for each the text of what it names in the pool, or "". */
        final List<Integer> codes = new ArrayList<>();
        final List<String> names = new ArrayList<>();
    }

    static final int PUTSTATIC = 179, INVOKEDYNAMIC = 186, NEW = 187, NEWARRAY = 188,
        ANEWARRAY = 189, ATHROW = 191, CHECKCAST = 192, MONITORENTER = 194, MULTIANEWARRAY = 197;
    private static final int TABLESWITCH = 170, LOOKUPSWITCH = 171, WIDE = 196, IINC = 132, INVOKEINTERFACE = 185;

    final String name;
    final List<String> fieldTypes = new ArrayList<>();
    final List<Body> bodies = new ArrayList<>();
    private final Object[] pool;
    private final int[][] pairs;

    ClassFile(byte[] bytes) throws IOException {
        DataInputStream in = new DataInputStream(new ByteArrayInputStream(bytes));
        in.skipBytes(8);
        int size = in.readUnsignedShort();
        pool = new Object[size];
        pairs = new int[size][];
        readPool(in, size);
        in.readUnsignedShort();
        name = text(in.readUnsignedShort());
        in.readUnsignedShort();
        in.skipBytes(2 * in.readUnsignedShort());
        for (int left = in.readUnsignedShort(); left > 0; left--) {
            in.readUnsignedShort();
            in.readUnsignedShort();
            fieldTypes.add(text(in.readUnsignedShort()));
            skipAttributes(in);
        }
        for (int left = in.readUnsignedShort(); left > 0; left--) {
            bodies.add(readMethod(in));
        }
    }

    private void readPool(DataInputStream in, int size) throws IOException {
        for (int i = 1; i < size; i++) {
            int tag = in.readUnsignedByte();
            switch (tag) {
                case 1: pool[i] = in.readUTF(); break;
                case 3: case 4: in.readInt(); break;
                case 5: case 6: in.readLong(); i++; break;
                case 7: case 8: case 16: case 19: case 20: pairs[i] = new int[] {in.readUnsignedShort()}; break;
                case 9: case 10: case 11: case 12: case 17: case 18:
                    pairs[i] = new int[] {in.readUnsignedShort(), in.readUnsignedShort()};
                    break;
                case 15: in.skipBytes(3); break;
                default: throw new IOException("no such constant: " + tag);
            }
        }
    }

    /** "java/lang/Math.max (II)I" of a method that is named, its name of a class. */
    private String text(int index) {
        if (index < 1 || index >= pool.length) {
            return "";
        }
        if (pool[index] != null) {
            return (String) pool[index];
        }
        int[] pair = pairs[index];
        if (pair == null) {
            return "";
        }
        if (pair.length == 1) {
            return text(pair[0]);
        }
        return pairs[pair[0]] != null ? text(pair[0]) + "." + text(pair[1]) : text(pair[0]) + " " + text(pair[1]);
    }

    private static void skipAttributes(DataInputStream in) throws IOException {
        for (int left = in.readUnsignedShort(); left > 0; left--) {
            in.readUnsignedShort();
            in.skipBytes(in.readInt());
        }
    }

    private Body readMethod(DataInputStream in) throws IOException {
        Body body = new Body();
        body.flags = in.readUnsignedShort();
        body.name = text(in.readUnsignedShort());
        body.type = text(in.readUnsignedShort());
        for (int left = in.readUnsignedShort(); left > 0; left--) {
            boolean isCode = text(in.readUnsignedShort()).equals("Code");
            int length = in.readInt();
            if (!isCode) {
                in.skipBytes(length);
                continue;
            }
            in.skipBytes(4);
            byte[] code = new byte[in.readInt()];
            in.readFully(code);
            body.handlers = in.readUnsignedShort();
            in.skipBytes(8 * body.handlers);
            readLines(in, body);
            readCode(code, body);
        }
        return body;
    }

    private void readLines(DataInputStream in, Body body) throws IOException {
        int first = Integer.MAX_VALUE;
        int last = 0;
        for (int left = in.readUnsignedShort(); left > 0; left--) {
            boolean isLines = text(in.readUnsignedShort()).equals("LineNumberTable");
            int length = in.readInt();
            if (!isLines) {
                in.skipBytes(length);
                continue;
            }
            for (int rows = in.readUnsignedShort(); rows > 0; rows--) {
                in.readUnsignedShort();
                int line = in.readUnsignedShort();
                first = Math.min(first, line);
                last = Math.max(last, line);
            }
        }
        body.lines = last == 0 ? 0 : last - first + 1;
    }

    private void readCode(byte[] code, Body body) {
        int at = 0;
        while (at < code.length) {
            int op = code[at] & 255;
            boolean isNaming = op == 18 || op == 19 || op == 20 || op >= 178 && op <= 187 || op == ANEWARRAY
                || op == CHECKCAST || op == 193 || op == MULTIANEWARRAY;
            body.codes.add(op);
            body.names.add(!isNaming ? "" : text(op == 18 ? code[at + 1] & 255 : two(code, at + 1)));
            at += length(code, at, op);
        }
    }

    private static int two(byte[] code, int at) {
        return (code[at] & 255) << 8 | code[at + 1] & 255;
    }

    private static int four(byte[] code, int at) {
        return two(code, at) << 16 | two(code, at + 2);
    }

    private static int length(byte[] code, int at, int op) {
        if (op == TABLESWITCH || op == LOOKUPSWITCH) {
            int table = at + 4 - at % 4;
            int rows = op == LOOKUPSWITCH ? 2 * four(code, table + 4) + 2
                : four(code, table + 8) - four(code, table + 4) + 4;
            return table + 4 * rows - at;
        }
        if (op == WIDE) {
            return (code[at + 1] & 255) == IINC ? 6 : 4;
        }
        if (op == 16 || op == 18 || op >= 21 && op <= 25 || op >= 54 && op <= 58 || op == 169 || op == NEWARRAY) {
            return 2;
        }
        if (op == 17 || op == 19 || op == 20 || op == IINC || op >= 153 && op <= 168 || op >= 178 && op <= 184
            || op == NEW || op == ANEWARRAY || op == CHECKCAST || op == 193 || op == 198 || op == 199) {
            return 3;
        }
        if (op == INVOKEINTERFACE || op == INVOKEDYNAMIC || op == 200 || op == 201) {
            return 5;
        }
        return op == MULTIANEWARRAY ? 4 : 1;
    }
}
