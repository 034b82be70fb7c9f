import java.io.DataInputStream;
import java.io.IOException;
import java.lang.reflect.Field;
import java.lang.reflect.Modifier;
import java.nio.file.Files;
import java.nio.file.Path;
import java.util.ArrayList;
import java.util.List;
import java.util.Set;
import java.util.TreeSet;

/** What of LANGUAGE.md can be seen in the source and in the compiled classes. */
public final class LanguageTest {
    private static final Checks CHECKS = new Checks();

    private static final String[] RULED_OUT = {
        "catch", "throw", "finally", "try {", "Exact(", "->", "::", "Double.", "Float.", "StrictMath",
        "System.out", "System.nanoTime", "System.currentTime", "Random", "synchronized", "assert ",
        "static {", "new ArrayList", "while (true)", "for (;;)", "package ", "protected ",
    };

    /** All that the class takes from the library; what is to be added must stand in rule 4. */
    private static final Set<String> LIBRARY = Set.of(
        "java/lang/Object.<init>()V", "java/lang/Math.min(II)I", "java/util/Arrays.fill([II)V",
        "java/util/Arrays.fill([JJ)V", "java/util/Arrays.fill([DD)V",
        "java/lang/System.arraycopy(Ljava/lang/Object;ILjava/lang/Object;II)V");

    private static final int TEXT = 1, INT = 3, FLOAT = 4, LONG = 5, DOUBLE = 6, CLASS = 7, STRING = 8, FIELD = 9,
        METHOD = 10, INTERFACE_METHOD = 11, NAME_AND_TYPE = 12;

    private static final int MOST_LINES_OF_A_METHOD = 60, MOST_CLASSES = 12, MOST_FIELDS = 20;

    private static void words(String text) {
        for (String word : RULED_OUT) {
            CHECKS.isTrue("the source has no '" + word + "'", !text.contains(word));
        }
        for (int i = 0; i < text.length(); i++) {
            if (text.charAt(i) > 126) {
                CHECKS.isTrue("sign " + i + " is a plain one", false);
            }
        }
    }

    private static void lengths(List<String> lines) {
        int methods = 0;
        for (int start = 0; start < lines.size(); start++) {
            String line = lines.get(start);
            if (line.matches("( {4}| {8})[A-Za-z<>\\[\\] ]+\\([^()]*\\) \\{") && !line.matches(" +(if|for|while|switch) .*")) {
                methods++;
                int end = lines.subList(start, lines.size()).indexOf(line.replaceAll("\\S.*", "") + "}");
                CHECKS.isTrue("some sixty lines at most: " + line.trim(), 0 < end && end <= MOST_LINES_OF_A_METHOD);
            }
        }
        CHECKS.isTrue("methods were found: " + methods, methods > 60);
    }

    private static List<Class<?>> classes() {
        List<Class<?>> classes = new ArrayList<>(List.of(ThreeReels.class));
        classes.addAll(List.of(ThreeReels.class.getDeclaredClasses()));
        return classes;
    }

    private static void fields(Class<?> of) {
        int own = 0;
        for (Field f : of.getDeclaredFields()) {
            if (Modifier.isStatic(f.getModifiers())) {
                CHECKS.isTrue(f + " is a constant", Modifier.isFinal(f.getModifiers()) && f.getType() == int.class);
            } else {
                own++;
            }
        }
        CHECKS.isTrue(of + " has some twenty fields at most", own <= MOST_FIELDS);
        CHECKS.isTrue(of + " has no classes inside but those of ThreeReels",
            of == ThreeReels.class || of.getDeclaredClasses().length == 0);
    }

    /** Reads the constants of a compiled class, in which each call of a method is named. */
    private static Set<String> called(Class<?> of) throws IOException {
        Set<String> called = new TreeSet<>();
        try (DataInputStream in = new DataInputStream(of.getResourceAsStream("/" + of.getName() + ".class"))) {
            in.readLong();
            int size = in.readUnsignedShort();
            int[][] pairs = new int[size][];
            String[] texts = new String[size];
            for (int i = 1; i < size; i++) {
                int kind = in.readUnsignedByte();
                switch (kind) {
                    case TEXT -> texts[i] = in.readUTF();
                    case INT, FLOAT -> in.readInt();
                    case LONG, DOUBLE -> {
                        in.readLong();
                        i++;
                    }
                    case CLASS, STRING -> pairs[i] = new int[] {kind, in.readUnsignedShort(), 0};
                    case FIELD, METHOD, INTERFACE_METHOD, NAME_AND_TYPE ->
                        pairs[i] = new int[] {kind, in.readUnsignedShort(), in.readUnsignedShort()};
                    default -> throw new IOException("a lambda, a method reference or texts joined by +: " + kind);
                }
            }
            for (int[] pair : pairs) {
                if (pair != null && (pair[0] == METHOD || pair[0] == INTERFACE_METHOD)) {
                    int[] nameAndType = pairs[pair[2]];
                    called.add(texts[pairs[pair[1]][1]] + "." + texts[nameAndType[1]] + texts[nameAndType[2]]);
                }
            }
        }
        return called;
    }

    private static void library(Class<?> of) throws IOException {
        Set<String> called = called(of);
        CHECKS.isTrue(of + " calls something", !called.isEmpty());
        for (String method : called) {
            CHECKS.isTrue(of + " may call " + method, method.startsWith("ThreeReels") || LIBRARY.contains(method));
        }
    }

    public static void main(String[] args) throws IOException {
        Path source = Path.of("src/main/java/ThreeReels.java");
        words(Files.readString(source));
        lengths(Files.readAllLines(source));
        CHECKS.isTrue("some twelve classes at most", classes().size() <= MOST_CLASSES);
        for (Class<?> of : classes()) {
            fields(of);
            library(of);
        }
        CHECKS.finish();
    }
}
