import java.io.IOException;
import java.util.HashSet;
import java.util.Set;

/**
 * LANGUAGE.md's rules 3, 4, 6, 10 and 13, looked up in the compiled classes: what they name of the
 * library is what the rules list. So neither a lambda nor a text joined by + can hide: each would
 * name a class of java.lang.invoke. (A record would too; there is none yet, and so none is listed.)
 */
public final class LibraryTest {
    private static final String OWN = "AssignmentDesk";
    /** A class of the library, then the members of it that may be used. */
    private static final String[] LISTED = {
        "java/lang/Object <init>",
        "java/lang/String length charAt isEmpty equals indexOf substring toCharArray <init>",
        "java/lang/StringBuilder <init> append charAt setCharAt setLength deleteCharAt reverse"
            + " length toString",
        "java/util/ArrayList <init> add get set remove size isEmpty clear iterator",
        "java/util/List add get set remove size isEmpty clear iterator of",
        "java/util/Iterator hasNext next",
        "java/lang/Iterable iterator",
        "java/lang/Comparable compareTo",
        "java/lang/Integer valueOf intValue compare max min sum signum bitCount highestOneBit"
            + " lowestOneBit numberOfLeadingZeros numberOfTrailingZeros reverse rotateLeft"
            + " rotateRight",
        "java/lang/Long compare max min sum signum bitCount highestOneBit lowestOneBit"
            + " numberOfLeadingZeros numberOfTrailingZeros reverse rotateLeft rotateRight",
        "java/lang/Math abs max min floorDiv floorMod",
        "java/lang/System arraycopy",
        "java/util/Arrays copyOf copyOfRange fill",
        "java/lang/Enum <init> ordinal name valueOf",
        "java/lang/IllegalStateException <init>",
        "java/lang/IllegalArgumentException <init>",
        "java/lang/IndexOutOfBoundsException <init>",
        "java/lang/ArithmeticException <init>",
        "java/lang/UnsupportedOperationException <init>",
        "java/util/NoSuchElementException <init>",
        "java/lang/RuntimeException <init>"};
    private static final Set<String> CLASSES = new HashSet<>();
    private static final Set<String> MEMBERS = new HashSet<>();
    /** Rule 3: no Math on doubles and floats. */
    private static final String FLOATING = "java/lang/(Math|Integer|Long)\\.\\w+\\(.*[DF].*";

    private static void readList() {
        for (String line : LISTED) {
            String[] words = line.split(" ");
            CLASSES.add(words[0]);
            for (int k = 1; k < words.length; k++) {
                MEMBERS.add(words[0] + "." + words[k]);
            }
        }
    }

    private static boolean isOwn(String name) {
        return name.equals(OWN) || name.startsWith(OWN + "$");
    }

    /** An array of numbers is named by the letter of its type. */
    private static boolean isNumber(String name) {
        return name.length() == 1;
    }

    private static void lookUp(Class<?> type) throws IOException {
        ClassFile compiled = ClassFile.of(type);
        for (String name : compiled.classes()) {
            boolean isListed = isOwn(name) || isNumber(name) || CLASSES.contains(name);
            Check.same(type.getName() + " names " + name, isListed, true);
        }
        for (String member : compiled.members()) {
            String owner = member.substring(0, member.indexOf('.'));
            String name = member.replaceAll("\\(.*", "");
            boolean isCopy = name.endsWith(".clone");
            boolean isListed = isOwn(owner) || isCopy || MEMBERS.contains(name);
            Check.same(type.getName() + " uses " + member, isListed, true);
            Check.same(member + " is of doubles or floats",
                    member.matches(FLOATING), false);
        }
    }

    public static void main(String[] args) throws IOException {
        readList();
        for (Class<?> type : AssignmentDesk.class.getNestMembers()) {
            lookUp(type);
        }
        Check.end();
    }
}
