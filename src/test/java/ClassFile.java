import java.io.DataInputStream;
import java.io.IOException;
import java.io.InputStream;
import java.util.Set;
import java.util.TreeSet;

/** What a compiled class names in its constant pool: classes, and methods and fields of classes. */
final class ClassFile {
    final Set<String> classes = new TreeSet<>();
    final Set<String> methods = new TreeSet<>();
    final Set<String> fields = new TreeSet<>();
    boolean dynamic = false;

    private int[] tags;
    private int[] first;
    private int[] second;
    private String[] texts;

    ClassFile(Class<?> c) throws IOException {
        String name = c.getName().substring(c.getName().lastIndexOf('.') + 1) + ".class";
        try (InputStream stream = c.getResourceAsStream(name); DataInputStream in = new DataInputStream(stream)) {
            readPool(in);
        }
        for (int i = 1; i < tags.length; i++) {
            if (tags[i] == 7) classes.add(texts[first[i]]);
            else if (tags[i] == 9) fields.add(member(i));
            else if (tags[i] == 10 || tags[i] == 11) methods.add(member(i));
            else if (tags[i] >= 15 && tags[i] <= 18) dynamic = true;
        }
    }

    private String member(int i) {
        int named = second[i];
        return texts[first[first[i]]] + "." + texts[first[named]] + texts[second[named]];
    }

    private void readPool(DataInputStream in) throws IOException {
        in.readInt();
        in.readInt();
        int count = in.readUnsignedShort();
        tags = new int[count];
        first = new int[count];
        second = new int[count];
        texts = new String[count];
        for (int i = 1; i < count; i++) {
            tags[i] = in.readUnsignedByte();
            switch (tags[i]) {
                case 1: texts[i] = in.readUTF(); break;
                case 3: case 4: in.readInt(); break;
                case 5: case 6: in.readLong(); i++; break;
                case 7: case 8: case 16: case 19: case 20: first[i] = in.readUnsignedShort(); break;
                case 15: in.readUnsignedByte(); in.readUnsignedShort(); break;
                default: first[i] = in.readUnsignedShort(); second[i] = in.readUnsignedShort(); break;
            }
        }
    }
}
