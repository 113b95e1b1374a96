import java.io.DataInputStream;
import java.io.IOException;
import java.io.InputStream;
import java.util.Set;
import java.util.TreeSet;

/**
 * LANGUAGE.md, rules 2, 4, 6 and 10, in the compiled classes: which methods of the library they
 * use, and that there is no lambda, no text joined by + and no switch with patterns.
 */
public final class LibraryTest {
    private static final Set<String> LIBRARY = Set.of(
        "java/lang/Object.<init>", "java/lang/Math.max", "java/lang/Math.min",
        "java/lang/Math.abs", "java/lang/Math.floorMod", "java/lang/System.arraycopy",
        "java/util/Arrays.fill", "java/lang/IllegalStateException.<init>",
        "java/lang/IllegalArgumentException.<init>", "java/lang/IndexOutOfBoundsException.<init>");

    /** Kinds of entries that stand for what is made while the program runs. */
    private static final Set<Integer> DYNAMIC = Set.of(15, 16, 17, 18);

    private static final Check check = new Check("LibraryTest");

    public static void main(String[] args) throws IOException {
        look(ParkingRules.class);
        for (Class<?> inside : ParkingRules.class.getDeclaredClasses()) {
            look(inside);
        }
        check.end();
    }

    private static void look(Class<?> type) throws IOException {
        String file = type.getName() + ".class";
        try (InputStream in = LibraryTest.class.getResourceAsStream(file)) {
            Pool pool = new Pool(new DataInputStream(in));
            TreeSet<String> foreign = new TreeSet<>();
            for (String member : pool.members()) {
                if (!member.startsWith("ParkingRules") && !LIBRARY.contains(member)) {
                    foreign.add(member);
                }
            }
            check.same(type.getName() + " uses of the library", "[]", foreign.toString());
            check.same(type.getName() + " makes code as it runs", "false", "" + pool.dynamic);
            check.same(type.getName() + " uses something", "false",
                "" + pool.members().isEmpty());
        }
    }

    /** A class file's table of constants. */
    private static final class Pool {
        private final int[] kind;
        private final int[] first;
        private final int[] second;
        private final String[] text;
        boolean dynamic = false;

        Pool(DataInputStream in) throws IOException {
            in.skipBytes(8);
            int size = in.readUnsignedShort();
            kind = new int[size];
            first = new int[size];
            second = new int[size];
            text = new String[size];
            for (int i = 1; i < size; i++) {
                kind[i] = in.readUnsignedByte();
                dynamic |= DYNAMIC.contains(kind[i]);
                read(in, i);
                // A long or a double takes two places.
                i += kind[i] == 5 || kind[i] == 6 ? 1 : 0;
            }
        }

        private void read(DataInputStream in, int i) throws IOException {
            switch (kind[i]) {
                case 1 -> text[i] = in.readUTF();
                case 5, 6 -> in.readLong();
                case 7, 8, 16, 19, 20 -> first[i] = in.readUnsignedShort();
                case 15 -> in.skipBytes(3);
                default -> {
                    first[i] = in.readUnsignedShort();
                    second[i] = in.readUnsignedShort();
                }
            }
        }

        /** Fields and methods that the class uses, as "java/lang/Math.max". */
        TreeSet<String> members() {
            TreeSet<String> members = new TreeSet<>();
            for (int i = 1; i < kind.length; i++) {
                if (kind[i] >= 9 && kind[i] <= 11) {
                    String owner = text[first[first[i]]];
                    members.add(owner + "." + text[first[second[i]]]);
                }
            }
            return members;
        }
    }
}
