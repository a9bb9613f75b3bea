import java.io.DataInputStream;
import java.io.IOException;
import java.lang.reflect.Field;
import java.lang.reflect.Method;
import java.lang.reflect.Modifier;
import java.nio.file.Files;
import java.nio.file.Path;
import java.util.ArrayList;
import java.util.List;
import java.util.Set;

/** What can be told of LANGUAGE.md by the source and by the compiled classes; the numbers are those of its rules. */
final class LanguageTest {
    private static final Path SOURCE = Path.of("src/main/java/StayWhereFell.java");
    private static final int CLASSES_MOST = 12, FIELDS_MOST = 20, PARAMETERS_MOST = 7, LINES_MOST = 60;

    private static final String BANNED = "throw|throws|try|catch|synchronized|assert|import|package|protected|native|var";
    // Class.method; a class alone allows all its methods. Those whose name ends in Exact are not allowed at all.
    private static final Set<String> LIBRARY = Set.of("java/lang/Object.<init>",
        "java/lang/String.length", "java/lang/String.charAt", "java/lang/String.isEmpty", "java/lang/String.equals",
        "java/lang/String.indexOf", "java/lang/String.substring", "java/lang/String.toCharArray",
        "java/lang/String.<init>", "java/lang/StringBuilder", "java/util/ArrayList", "java/util/List",
        "java/util/Iterator", "java/util/Iterable", "java/lang/Comparable", "java/lang/Integer", "java/lang/Long",
        "java/lang/Math", "java/lang/System.arraycopy", "java/util/Arrays.copyOf", "java/util/Arrays.copyOfRange",
        "java/util/Arrays.fill");

    private final Check check = new Check();
    private final List<Class<?>> classes = new ArrayList<>();

    public static void main(String[] args) throws IOException {
        LanguageTest test = new LanguageTest();
        test.gather(StayWhereFell.class);
        test.holds("11: so many classes", test.classes.size() <= CLASSES_MOST);
        for (Class<?> one : test.classes) {
            test.shape(one);
            test.library(one);
        }
        test.source(Files.readString(SOURCE));
        test.check.end("the language");
    }

    private void holds(String what, boolean is) {
        check.due(what, is ? 1 : 0, 1);
    }

    private void gather(Class<?> one) {
        classes.add(one);
        for (Class<?> inside : one.getDeclaredClasses()) {
            gather(inside);
        }
    }

    private void shape(Class<?> one) {
        int modifiers = one.getModifiers();
        if (one != StayWhereFell.class) {
            holds("2: " + one + " is static", Modifier.isStatic(modifiers) || one.isInterface());
            holds("2: " + one + " is hidden", !Modifier.isPublic(modifiers) && !Modifier.isProtected(modifiers));
        }
        int fields = 0;
        for (Field field : one.getDeclaredFields()) {
            boolean shared = Modifier.isStatic(field.getModifiers());
            fields += shared ? 0 : 1;
            holds("5: " + field + " is final", !shared || Modifier.isFinal(field.getModifiers()));
        }
        holds("11: fields of " + one, fields <= FIELDS_MOST);
        for (Method method : one.getDeclaredMethods()) {
            holds("11: parameters of " + method, method.getParameterCount() <= PARAMETERS_MOST);
        }
    }

    /** Looks at each constant by which a compiled class names something outside it. */
    private void library(Class<?> one) throws IOException {
        String file = one.getName() + ".class";
        try (DataInputStream in = new DataInputStream(one.getResourceAsStream(file))) {
            in.skipBytes(8);
            int size = in.readUnsignedShort();
            String[] words = new String[size];
            int[][] pairs = new int[size][];
            int[] tags = new int[size];
            for (int i = 1; i < size; i++) {
                tags[i] = in.readUnsignedByte();
                switch (tags[i]) {
                    case 1: words[i] = in.readUTF(); break;
                    case 5: case 6: in.skipBytes(8); i++; break;
                    case 7: case 8: case 16: pairs[i] = new int[] {in.readUnsignedShort()}; break;
                    case 15: in.skipBytes(3); break;
                    default: pairs[i] = new int[] {in.readUnsignedShort(), in.readUnsignedShort()};
                }
            }
            for (int i = 1; i < size; i++) {
                holds("2, 4: no lambda, no reference, no joining by + in " + file, tags[i] < 15);
                if (tags[i] == 10 || tags[i] == 11) {
                    called(file, words[pairs[pairs[i][0]][0]], words[pairs[pairs[i][1]][0]]);
                }
            }
        }
    }

    private void called(String file, String owner, String name) {
        boolean own = owner.startsWith("StayWhereFell") || owner.startsWith("[");
        boolean listed = LIBRARY.contains(owner) || LIBRARY.contains(owner + "." + name);
        holds("4: " + owner + "." + name + " in " + file, own || listed && !name.endsWith("Exact"));
    }

    private void source(String text) {
        for (int i = 0; i < text.length(); i++) {
            char sign = text.charAt(i);
            holds("4: the sign at " + i, sign == '\n' || sign >= ' ' && sign < 127);
        }
        String bare = text.replaceAll("(?s)/\\*.*?\\*/", "").replaceAll("//[^\n]*", "")
            .replaceAll("\"[^\"\n]*\"", "\"\"").replaceAll("'[^'\n]*'", "' '");
        for (String word : bare.split("\\W+")) {
            holds("6: no " + word, !word.matches(BANNED));
        }
        holds("9: no loop without an end", !bare.matches("(?s).*(while *\\( *true|for *\\([^;]*; *;).*"));
        String[] lines = text.split("\n");
        for (int i = 0; i < lines.length; i++) {
            if (lines[i].endsWith(") {")) {
                holds("11: what begins at line " + (i + 1), endOf(lines, i) - i < LINES_MOST);
            }
        }
    }

    /** The line that ends what begins on a line: the next one that is a brace as far in as that. */
    private static int endOf(String[] lines, int begin) {
        String end = lines[begin].replaceAll("\\S.*", "") + "}";
        int i = begin + 1;
        while (i < lines.length && !lines[i].startsWith(end)) {
            i++;
        }
        return i;
    }
}
