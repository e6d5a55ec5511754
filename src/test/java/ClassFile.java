import java.io.ByteArrayInputStream;
import java.io.DataInputStream;
import java.io.IOException;
import java.io.InputStream;
import java.nio.ByteBuffer;
import java.util.ArrayList;
import java.util.List;

/** What the compiler made of a class: the instructions of its methods, and what they call. */
final class ClassFile {
    static final int PUT_STATIC = 0xb3, FIRST_INVOKE = 0xb6, INVOKE_DYNAMIC = 0xba, THROW = 0xbf, CAST = 0xc0,
        ENTER_MONITOR = 0xc2, EXIT_MONITOR = 0xc3, JUMP_TO_SUBROUTINE = 0xa8;
    private static final int TABLE_SWITCH = 0xaa, LOOKUP_SWITCH = 0xab, WIDE = 0xc4, INCREMENT = 0x84;
    private static final int LONG = 5, DOUBLE = 6;

    /** A method: its full name, the codes of its instructions, the full names of what it calls. */
    static final class Body {
        final String name;
        final List<Integer> instructions = new ArrayList<>();
        final List<String> calls = new ArrayList<>();
        int handlers;

        Body(String name) {
            this.name = name;
        }
    }

    private final DataInputStream in;
    private final Object[] constants;
    final List<Body> bodies = new ArrayList<>();

    static ClassFile of(Class<?> one) throws IOException {
        String name = one.getName();
        try (InputStream file = one.getResourceAsStream(name.substring(name.lastIndexOf('.') + 1) + ".class")) {
            return new ClassFile(file.readAllBytes());
        }
    }

    private ClassFile(byte[] bytes) throws IOException {
        in = new DataInputStream(new ByteArrayInputStream(bytes));
        in.skipNBytes(8);
        constants = new Object[in.readUnsignedShort()];
        for (int i = 1; i < constants.length; i++) {
            int tag = in.readUnsignedByte();
            constants[i] = readConstant(tag);
            i += tag == LONG || tag == DOUBLE ? 1 : 0;
        }
        in.skipNBytes(2);
        String own = nameOf(in.readUnsignedShort());
        in.skipNBytes(2);
        in.skipNBytes(2L * in.readUnsignedShort());
        readMembers(own, false);
        readMembers(own, true);
    }

    /** Texts are kept as such, and what refers to other constants as their numbers. */
    private Object readConstant(int tag) throws IOException {
        switch (tag) {
            case 1: return in.readUTF();
            case 3: case 4: return in.readInt();
            case LONG: case DOUBLE: return in.readLong();
            case 7: case 8: case 16: case 19: case 20: return new int[] {in.readUnsignedShort()};
            case 9: case 10: case 11: case 12: case 17: case 18:
                return new int[] {in.readUnsignedShort(), in.readUnsignedShort()};
            case 15: return new int[] {in.readUnsignedByte(), in.readUnsignedShort()};
            default: throw new IOException("a constant of kind " + tag);
        }
    }

    private String textAt(int index) {
        return (String) constants[index];
    }

    private String nameOf(int index) {
        return textAt(((int[]) constants[index])[0]);
    }

    /** The full name of a member that an instruction refers to. */
    private String memberAt(int index) {
        int[] member = (int[]) constants[index];
        int[] nameAndType = (int[]) constants[member[1]];
        return nameOf(member[0]) + "." + textAt(nameAndType[0]) + textAt(nameAndType[1]);
    }

    private void readMembers(String own, boolean areMethods) throws IOException {
        int members = in.readUnsignedShort();
        for (int i = 0; i < members; i++) {
            in.skipNBytes(2);
            Body body = new Body(own + "." + textAt(in.readUnsignedShort()) + textAt(in.readUnsignedShort()));
            int attributes = in.readUnsignedShort();
            for (int k = 0; k < attributes; k++) {
                String attribute = textAt(in.readUnsignedShort());
                byte[] content = in.readNBytes(in.readInt());
                if (attribute.equals("Code")) {
                    readCode(body, ByteBuffer.wrap(content));
                }
            }
            if (areMethods) {
                bodies.add(body);
            }
        }
    }

    private void readCode(Body body, ByteBuffer content) {
        int length = content.getInt(4);
        ByteBuffer code = content.slice(8, length);
        body.handlers = content.getShort(8 + length);
        int at = 0;
        while (at < length) {
            int instruction = code.get(at) & 0xff;
            body.instructions.add(instruction);
            if (instruction >= FIRST_INVOKE && instruction < INVOKE_DYNAMIC) {
                body.calls.add(memberAt(code.getShort(at + 1) & 0xffff));
            }
            at += lengthOf(instruction, code, at);
        }
    }

    private static int lengthOf(int instruction, ByteBuffer code, int at) {
        int padded = at + 4 - at % 4;
        switch (instruction) {
            case TABLE_SWITCH: return padded + 12 + 4 * (code.getInt(padded + 8) - code.getInt(padded + 4) + 1) - at;
            case LOOKUP_SWITCH: return padded + 8 + 8 * code.getInt(padded + 4) - at;
            case WIDE: return (code.get(at + 1) & 0xff) == INCREMENT ? 6 : 4;
            case 0x10: case 0x12: case 0xa9: case 0xbc: return 2;
            case 0x11: case 0x13: case 0x14: case INCREMENT: case 0xbb: case 0xbd: case CAST: case 0xc1: case 0xc6:
            case 0xc7: return 3;
            case 0xb9: case INVOKE_DYNAMIC: case 0xc8: case 0xc9: return 5;
            case 0xc5: return 4;
            default: break;
        }
        boolean hasLocal = instruction >= 0x15 && instruction <= 0x19 || instruction >= 0x36 && instruction <= 0x3a;
        boolean hasPlace = instruction >= 0x99 && instruction <= JUMP_TO_SUBROUTINE
            || instruction >= 0xb2 && instruction < 0xb9;
        return hasLocal ? 2 : hasPlace ? 3 : 1;
    }
}
