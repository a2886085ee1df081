import java.io.DataInputStream;
import java.io.IOException;
import java.io.InputStream;
import java.lang.management.ManagementFactory;
import java.lang.reflect.Field;
import java.lang.reflect.Method;
import java.lang.reflect.Modifier;
import java.nio.file.Files;
import java.nio.file.Path;
import java.util.ArrayList;
import java.util.List;
import java.util.Set;

/** What a test can see of LANGUAGE.md's rules: the classes inside, the library that is used, lengths, and the room. */
public final class LanguageTest {
    private static final Due DUE = new Due();
    private static final Set<String> LIBRARY = Set.of("java/lang/Object.<init>", "java/lang/String.length",
        "java/lang/String.charAt", "java/lang/Math.abs", "java/lang/Math.min", "java/lang/Math.max",
        "java/util/NoSuchElementException.<init>");
    private static final Set<Class<?>> CONSTANTS = Set.of(int.class, long.class, boolean.class, char.class, String.class);

    public static void main(String[] args) throws IOException {
        List<Class<?>> classes = new ArrayList<>(List.of(MuleRoad.class.getDeclaredClasses()));
        for (Class<?> inside : classes) {
            DUE.sentence("rule 1: classes inside are private or package-visible and static");
            int marks = inside.getModifiers();
            yes(inside.getName(), Modifier.isStatic(marks) && !Modifier.isPublic(marks) && !Modifier.isProtected(marks));
        }
        classes.add(MuleRoad.class);
        DUE.sentence("rule 11: at most some twelve classes");
        yes(classes.size() + " classes", classes.size() <= 12);
        for (Class<?> each : classes) {
            fields(each);
            methods(each);
            library(each);
        }
        lines();
        room();
        DUE.end();
    }

    private static void yes(String what, boolean holds) {
        DUE.is(what, holds ? 1 : 0, 1);
    }

    private static void fields(Class<?> each) {
        int own = 0;
        for (Field f : each.getDeclaredFields()) {
            if (Modifier.isStatic(f.getModifiers())) {
                DUE.sentence("rule 5: static fields are final constants");
                yes(f.toString(), Modifier.isFinal(f.getModifiers()) && CONSTANTS.contains(f.getType()));
            } else {
                own++;
            }
        }
        DUE.sentence("rule 11: a class has some twenty fields beside its constants");
        yes(each + " has " + own, own <= 20);
    }

    private static void methods(Class<?> each) {
        for (Method m : each.getDeclaredMethods()) {
            DUE.sentence("rule 11: a method takes at most seven parameters");
            yes(m.toString(), m.getParameterCount() <= 7);
            DUE.sentence("rules 2, 6: no lambda, no synchronized");
            yes(m.toString(), !m.isSynthetic() && !Modifier.isSynchronized(m.getModifiers()));
        }
    }

    /** Reads what the class file names: the format is that of the Java machine's book, 4.4. */
    private static void library(Class<?> each) throws IOException {
        try (InputStream file = each.getResourceAsStream(each.getName() + ".class");
            DataInputStream in = new DataInputStream(file)) {
            in.readInt();
            in.readInt();
            int size = in.readUnsignedShort();
            int[][] pairs = new int[size][];
            String[] texts = new String[size];
            for (int i = 1; i < size; i++) {
                int tag = in.readUnsignedByte();
                if (tag == 1) {
                    texts[i] = in.readUTF();
                } else if (tag == 7 || tag == 8 || tag == 16) {
                    pairs[i] = new int[] {tag, in.readUnsignedShort()};
                } else if (tag == 5 || tag == 6) {
                    in.readLong();
                    i++;
                } else if (tag == 15) {
                    in.readUnsignedByte();
                    in.readUnsignedShort();
                } else if (tag == 3 || tag == 4) {
                    in.readInt();
                } else {
                    pairs[i] = new int[] {tag, in.readUnsignedShort(), in.readUnsignedShort()};
                }
            }
            for (int[] pair : pairs) {
                called(each, pair, pairs, texts);
            }
        }
    }

    private static void called(Class<?> each, int[] pair, int[][] pairs, String[] texts) {
        if (pair == null) {
            return;
        }
        DUE.sentence("rule 2: no lambda, no method reference, no texts joined by +");
        yes(each.getName(), pair[0] != 17 && pair[0] != 18);
        if (pair[0] < 9 || pair[0] > 11) {
            return;
        }
        String name = texts[pairs[pair[1]][1]] + "." + texts[pairs[pair[2]][1]];
        DUE.sentence("rule 4: the library: only what stands here");
        yes(each.getName() + " uses " + name, name.startsWith("MuleRoad") || LIBRARY.contains(name));
    }

    private static void lines() throws IOException {
        List<String> lines = Files.readAllLines(Path.of("src/main/java/MuleRoad.java"));
        int begun = 0;
        String indent = null;
        for (int i = 0; i < lines.size(); i++) {
            String line = lines.get(i);
            DUE.sentence("one file without a package line; the face's import alone");
            yes(line, !line.startsWith("package"));
            yes(line, !line.startsWith("import") || line.equals("import java.util.NoSuchElementException;"));
            if (indent == null && line.matches(" {4,8}\\w.*\\(.*\\) (throws \\w+ )?\\{") && !line.contains(" = ")) {
                indent = line.replaceFirst("\\S.*", "");
                begun = i;
            } else if (indent != null && line.equals(indent + "}")) {
                DUE.sentence("rule 11: methods stay short (some sixty lines)");
                yes(lines.get(begun).trim() + " has " + (i - begun + 1), i - begun < 60);
                indent = null;
            }
        }
    }

    /** All calls live in one room, so none but the constructor, string and pack makes anything. */
    private static void room() {
        DUE.sentence("rule 12: what a run makes is kept small");
        useAll(fullRoad());
        long before = madeSoFar();
        // The measuring itself makes a little.
        long measuring = madeSoFar() - before;
        before = madeSoFar();
        MuleRoad x = fullRoad();
        long full = madeSoFar() - before - measuring;
        before = madeSoFar();
        useAll(x);
        long used = madeSoFar() - before - measuring;
        yes("a full road takes " + full + " bytes", full < 50000);
        yes("396 calls more take " + used + " bytes", used < 500);
    }

    private static long madeSoFar() {
        com.sun.management.ThreadMXBean bean = (com.sun.management.ThreadMXBean) ManagementFactory.getThreadMXBean();
        return bean.getThreadAllocatedBytes(Thread.currentThread().getId());
    }

    private static MuleRoad fullRoad() {
        MuleRoad x = new MuleRoad();
        x.inn(0, 0, false);
        x.inn(1, 9, true);
        for (int i = 0; i < 4; i++) {
            x.string(0, 119, 119, 119);
        }
        for (int i = 0; i < 100; i++) {
            x.pack(0, 1, i % 3, 2 + i % 30 * 2);
        }
        return x;
    }

    private static void useAll(MuleRoad x) {
        for (int i = 0; i < 33; i++) {
            x.best(0, i % 3);
            x.bestOf(0, i % 3, i);
            x.feed(0x73616c74, 0x3a313b3a, 0x313b3a31, 0x3b3a313b, 0x3a323220 + i % 2 * 27);
            x.bargain();
            x.snow(0, i + 1, i + 9);
            x.lay(0, i % 3, i % 2, i);
            x.go(0, i % 2 == 0);
            x.hours(1);
            x.down(i);
            x.was(i, i);
            x.count(9);
            x.shut(0, i, i);
        }
    }
}
