import java.io.DataInputStream;
import java.io.IOException;
import java.io.InputStream;
import java.util.Set;
import java.util.TreeSet;

/** What the constants of a compiled class name: the classes, and the members that it uses. */
final class ClassFile {
    private static final int MAGIC_AND_VERSION = 8;
    /** The kinds of constants, by the numbers that they have in a class file. */
    private static final int TEXT = 1;
    private static final int LONG = 5;
    private static final int DOUBLE = 6;
    private static final int CLASS = 7;
    private static final int STRING = 8;
    private static final int FIELD = 9;
    private static final int METHOD = 10;
    private static final int INTERFACE_METHOD = 11;
    private static final int HANDLE = 15;
    private static final int METHOD_TYPE = 16;

    private final int[] kinds;
    private final int[] firsts;
    private final int[] seconds;
    private final String[] texts;

    private ClassFile(DataInputStream in) throws IOException {
        in.skipNBytes(MAGIC_AND_VERSION);
        int count = in.readUnsignedShort();
        kinds = new int[count];
        firsts = new int[count];
        seconds = new int[count];
        texts = new String[count];
        for (int index = 1; index < count; index++) {
            kinds[index] = in.readUnsignedByte();
            read(in, index);
            if (kinds[index] == LONG || kinds[index] == DOUBLE) {
                index++;
            }
        }
    }

    static ClassFile of(Class<?> type) throws IOException {
        try (InputStream in = type.getResourceAsStream(type.getName() + ".class")) {
            return new ClassFile(new DataInputStream(in));
        }
    }

    private void read(DataInputStream in, int index) throws IOException {
        switch (kinds[index]) {
            case TEXT:
                texts[index] = in.readUTF();
                break;
            case LONG:
            case DOUBLE:
                in.skipNBytes(8);
                break;
            case CLASS:
            case STRING:
            case METHOD_TYPE:
                firsts[index] = in.readUnsignedShort();
                break;
            case HANDLE:
                in.skipNBytes(3);
                break;
            default: // all others have four bytes: numbers and pairs of indexes
                firsts[index] = in.readUnsignedShort();
                seconds[index] = in.readUnsignedShort();
                break;
        }
    }

    /** The classes that are named, arrays as what they hold. */
    Set<String> classes() {
        Set<String> classes = new TreeSet<>();
        for (int index = 1; index < kinds.length; index++) {
            if (kinds[index] == CLASS) {
                classes.add(elementOf(texts[firsts[index]]));
            }
        }
        return classes;
    }

    /** Fields and methods: the class, a dot, the name, and the types of a method. */
    Set<String> members() {
        Set<String> members = new TreeSet<>();
        for (int index = 1; index < kinds.length; index++) {
            int kind = kinds[index];
            if (kind == FIELD || kind == METHOD || kind == INTERFACE_METHOD) {
                String owner = texts[firsts[firsts[index]]];
                int named = seconds[index];
                String types = kind == FIELD ? "" : texts[seconds[named]];
                members.add(elementOf(owner) + "." + texts[firsts[named]] + types);
            }
        }
        return members;
    }

    /** An array of objects is named by an L and a semicolon around its class, others are not. */
    private static String elementOf(String name) {
        return name.replaceAll("^\\[+L?([^;]+);?$", "$1");
    }
}
