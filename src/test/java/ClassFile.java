import java.io.ByteArrayInputStream;
import java.io.DataInputStream;
import java.io.IOException;
import java.util.ArrayList;
import java.util.List;
import java.util.Map;
import java.util.TreeMap;

/** What a compiled class calls, throws and catches, read from its bytes: no library is needed for it. */
final class ClassFile {
    private static final int NEW = 187;
    private static final int FIRST_INVOKE = 182;
    private static final int LAST_INVOKE = 185;
    private static final int DYNAMIC = 186;
    /** Bytes behind each opcode, a digit each; '-' for those that tell their length themselves. */
    private static final String BEHIND =
            "0000000000000000" + "1212211111000000" + "0000000000000000" + "0000001111100000"
            + "0000000000000000" + "0000000000000000" + "0000000000000000" + "0000000000000000"
            + "0000200000000000" + "0000000002222222" + "2222222221--0000" + "0022222224421200"
            + "2200-32244";

    /** Of each method ("Class.name(types)") what it calls, as often as it does. */
    final Map<String, List<String>> calls = new TreeMap<>();
    /** Of each method the classes of which it makes objects. */
    final Map<String, List<String>> makes = new TreeMap<>();
    /** Of each method how many places it has that catch. */
    final Map<String, Integer> catches = new TreeMap<>();
    boolean hasDynamic;

    private final Object[] pool;
    private final String name;

    ClassFile(byte[] bytes) throws IOException {
        DataInputStream in = new DataInputStream(new ByteArrayInputStream(bytes));
        in.readInt();
        in.readInt();
        pool = new Object[in.readUnsignedShort()];
        for (int i = 1; i < pool.length; i++) {
            i += readConstant(in, i);
        }
        in.readUnsignedShort();
        name = text(((int[]) pool[in.readUnsignedShort()])[0]);
        in.readUnsignedShort();
        in.skipBytes(2 * in.readUnsignedShort());
        for (int fields = in.readUnsignedShort(); fields > 0; fields--) {
            readMember(in);
        }
        for (int methods = in.readUnsignedShort(); methods > 0; methods--) {
            readMember(in);
        }
    }

    /** How many places of the pool it takes beside its own. */
    private int readConstant(DataInputStream in, int i) throws IOException {
        int tag = in.readUnsignedByte();
        switch (tag) {
            case 1: pool[i] = in.readUTF(); return 0;
            case 3: case 4: in.readInt(); return 0;
            case 5: case 6: in.readLong(); return 1;
            case 7: case 8: case 16: case 19: case 20: pool[i] = new int[] {in.readUnsignedShort()}; return 0;
            case 15: in.readUnsignedByte(); in.readUnsignedShort(); return 0;
            default: pool[i] = new int[] {in.readUnsignedShort(), in.readUnsignedShort()}; return 0;
        }
    }

    private String text(int i) {
        return (String) pool[i];
    }

    private String classAt(int i) {
        return text(((int[]) pool[i])[0]);
    }

    private String memberAt(int i) {
        int[] member = (int[]) pool[i];
        int[] nameAndType = (int[]) pool[member[1]];
        return classAt(member[0]) + "." + text(nameAndType[0]) + text(nameAndType[1]);
    }

    private void readMember(DataInputStream in) throws IOException {
        in.readUnsignedShort();
        String member = name + "." + text(in.readUnsignedShort()) + text(in.readUnsignedShort());
        for (int attributes = in.readUnsignedShort(); attributes > 0; attributes--) {
            String attribute = text(in.readUnsignedShort());
            byte[] bytes = new byte[in.readInt()];
            in.readFully(bytes);
            if (attribute.equals("Code")) {
                readCode(member, new DataInputStream(new ByteArrayInputStream(bytes)));
            }
        }
    }

    private void readCode(String member, DataInputStream in) throws IOException {
        in.readInt();
        byte[] code = new byte[in.readInt()];
        in.readFully(code);
        catches.put(member, in.readUnsignedShort());
        List<String> called = new ArrayList<>();
        List<String> made = new ArrayList<>();
        for (int at = 0; at < code.length; at += length(code, at)) {
            int op = code[at] & 255;
            int index = at + 2 < code.length ? (code[at + 1] & 255) << 8 | code[at + 2] & 255 : 0;
            if (op >= FIRST_INVOKE && op <= LAST_INVOKE) {
                called.add(memberAt(index));
            } else if (op == DYNAMIC) {
                hasDynamic = true;
            } else if (op == NEW) {
                made.add(classAt(index));
            }
        }
        calls.put(member, called);
        makes.put(member, made);
    }

    private static int length(byte[] code, int at) {
        int op = code[at] & 255;
        char behind = BEHIND.charAt(op);
        if (behind != '-') {
            return 1 + behind - '0';
        }
        int start = at + 4 - at % 4;
        switch (op) {
            case 170: return start - at + 12 + 4 * (int32(code, start + 8) - int32(code, start + 4) + 1);
            case 171: return start - at + 8 + 8 * int32(code, start + 4);
            default: return (code[at + 1] & 255) == 132 ? 6 : 4;
        }
    }

    private static int int32(byte[] code, int at) {
        return code[at] << 24 | (code[at + 1] & 255) << 16 | (code[at + 2] & 255) << 8 | code[at + 3] & 255;
    }
}
