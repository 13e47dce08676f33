import java.io.DataInputStream;
import java.io.IOException;
import java.io.InputStream;
import java.util.ArrayList;
import java.util.List;
import java.util.Set;
import java.util.TreeSet;

/** Rule 4 of LANGUAGE.md: of the library, the class calls only what the list names, as its compiled form tells. */
public final class LibraryTest {
    private static final Set<String> NAMED = Set.of(
            "Object <init>", "String length", "String charAt", "String isEmpty", "String equals", "String indexOf",
            "String substring", "String toCharArray",
            "Integer compare", "Integer max", "Integer min", "Integer bitCount",
            "Long compare", "Long max", "Long min", "Long bitCount",
            "Math abs", "Math max", "Math min", "Math floorDiv", "Math floorMod",
            "System arraycopy", "Arrays copyOf", "Arrays copyOfRange", "Arrays fill",
            "IllegalArgumentException <init>", "IllegalStateException <init>", "ArithmeticException <init>");
    private static final Set<String> TYPES_OF_MATH = Set.of(
            "(I)I", "(J)J", "(II)I", "(JJ)J", "(JI)J", "(JI)I");

    public static void main(String[] args) throws IOException {
        List<Class<?>> classes = new ArrayList<>();
        classes.add(NumberHouse.class);
        for (Class<?> inside : NumberHouse.class.getDeclaredClasses()) {
            classes.add(inside);
        }
        House.due("at most twelve classes", classes.size() <= 12, true);
        Set<String> used = new TreeSet<>();
        for (Class<?> one : classes) {
            try (InputStream in = NumberHouse.class.getResourceAsStream(one.getName() + ".class")) {
                used.addAll(libraryOf(new DataInputStream(in)));
            }
        }
        House.due("the class makes objects", used.contains("Object <init> ()V"), true);
        for (String member : used) {
            String[] parts = member.split(" ");
            House.due("the list names " + member, NAMED.contains(parts[0] + " " + parts[1]), true);
            if (parts[0].equals("Math")) {
                House.due(member + " is over int and long", TYPES_OF_MATH.contains(parts[2]), true);
            }
        }
        House.end();
    }

    /** Class, name and type of every member in a class file's table of constants that is of the library. */
    private static Set<String> libraryOf(DataInputStream in) throws IOException {
        in.readInt();
        in.readInt();
        int count = in.readUnsignedShort();
        String[] texts = new String[count];
        int[][] pairs = new int[count][];
        int[] tags = new int[count];
        for (int i = 1; i < count; i++) {
            tags[i] = in.readUnsignedByte();
            switch (tags[i]) {
                case 1 -> texts[i] = in.readUTF();
                case 3, 4 -> in.readInt();
                case 5, 6 -> {
                    in.readLong();
                    i++;
                }
                case 7, 8, 16, 19, 20 -> pairs[i] = new int[] {in.readUnsignedShort()};
                case 9, 10, 11, 12, 17, 18 -> pairs[i] = new int[] {in.readUnsignedShort(), in.readUnsignedShort()};
                case 15 -> in.skipBytes(3);
                default -> throw new IOException("a constant of kind " + tags[i]);
            }
        }
        Set<String> members = new TreeSet<>();
        for (int i = 1; i < count; i++) {
            if (tags[i] >= 9 && tags[i] <= 11) {
                String owner = texts[pairs[pairs[i][0]][0]];
                int[] nameAndType = pairs[pairs[i][1]];
                if (owner.contains("/")) {
                    String name = owner.substring(owner.lastIndexOf('/') + 1);
                    members.add(name + " " + texts[nameAndType[0]] + " " + texts[nameAndType[1]]);
                }
            }
            House.due("a call that is made at run time", tags[i] >= 15 && tags[i] <= 18, false);
        }
        return members;
    }
}
