import java.lang.reflect.Constructor;
import java.lang.reflect.Field;
import java.lang.reflect.Method;
import java.lang.reflect.Modifier;
import java.nio.charset.StandardCharsets;
import java.nio.file.Files;
import java.nio.file.Path;
import java.util.Arrays;
import java.util.TreeSet;

/** The public face is the document's and no more, and the source keeps to what LANGUAGE.md leaves. */
public final class FaceTest {
    private static final String[] FACE = {
        "public int addBag(int,int,int)", "public int addPost(int,int)", "public int addSleigh(int,int)",
        "public int arrives(int)", "public int bag(int,int)", "public int bears(int,int)",
        "public int cell(int,int,int)", "public int count(int)", "public long digest()",
        "public int foresee(int,int)", "public int load(int,int)", "public double mean()",
        "public int pass(int)", "public int send(int,int)", "public int setCold(int,int)",
        "public int setIce(int,int,int,int,int)", "public int setSnow(int,int,int)",
        "public int sleigh(int,int)", "public int way(int,int,int,int)",
    };

    private static final String[] FORBIDDEN = {
        "->", "::", "catch", "finally", "synchronized", "assert ", "Exact(", "package ", "System.out", "float",
        "Random", "currentTime", "nanoTime", "Thread", "protected ", "instanceof", "while", "\"+", "\" +", "+ \"",
    };

    private static final Checks CHECKS = new Checks();

    public static void main(String[] args) throws Exception {
        members();
        membersInside();
        declarations();
        source();
        CHECKS.end();
    }

    private static void members() {
        Class<SleighPost> face = SleighPost.class;
        CHECKS.same("public and final", face.getModifiers(), Modifier.PUBLIC | Modifier.FINAL);
        TreeSet<String> visible = new TreeSet<>();
        TreeSet<String> hidden = new TreeSet<>();
        for (Method method : face.getDeclaredMethods()) {
            if (Modifier.isPrivate(method.getModifiers())) {
                hidden.add(method.getName());
            } else {
                visible.add(signature(method));
            }
        }
        if (!visible.equals(new TreeSet<>(Arrays.asList(FACE)))) {
            CHECKS.report("the visible methods are " + visible);
        }
        notNamedLikeTheFace(hidden);
        for (Field field : face.getDeclaredFields()) {
            CHECKS.same(field + " is private", field.getModifiers() & Modifier.PRIVATE, Modifier.PRIVATE);
        }
        Constructor<?>[] constructors = face.getDeclaredConstructors();
        CHECKS.same("constructors", constructors.length, 1);
        CHECKS.same("its parameters", constructors[0].getParameterCount(), 0);
        CHECKS.same("public", constructors[0].getModifiers(), Modifier.PUBLIC);
    }

    private static void membersInside() {
        TreeSet<String> hidden = new TreeSet<>();
        for (Class<?> inside : SleighPost.class.getDeclaredClasses()) {
            int kind = inside.getModifiers();
            if (!Modifier.isStatic(kind) || Modifier.isPublic(kind) || Modifier.isProtected(kind)) {
                CHECKS.report(inside + " is visible or not static");
            }
            for (Method method : inside.getDeclaredMethods()) {
                if (Modifier.isPrivate(method.getModifiers())) {
                    hidden.add(method.getName());
                }
            }
            for (Field field : inside.getDeclaredFields()) {
                if (Modifier.isStatic(field.getModifiers()) && !Modifier.isFinal(field.getModifiers())) {
                    CHECKS.report(field + " is static, but not final");
                }
            }
        }
        notNamedLikeTheFace(hidden);
    }

    private static void notNamedLikeTheFace(TreeSet<String> hidden) {
        for (String line : FACE) {
            String name = line.substring(line.lastIndexOf(' ') + 1, line.indexOf('('));
            if (hidden.contains(name)) {
                CHECKS.report("a private method is named " + name);
            }
        }
    }

    /** Each line of the document's face stands in the source as it is there, with its exceptions in their order. */
    private static void declarations() throws Exception {
        String source = inOneLine(Files.readString(Path.of("src/main/java/SleighPost.java"), StandardCharsets.UTF_8));
        String document = Files.readString(Path.of("../shared/DOC.md"), StandardCharsets.UTF_8);
        int found = 0;
        for (String line : document.split("\n")) {
            if (line.startsWith("    public ") && line.endsWith(";")) {
                found++;
                String declaration = inOneLine(line.substring(0, line.length() - 1)) + " {";
                if (!source.contains(declaration)) {
                    CHECKS.report("the source has no " + declaration);
                }
            }
        }
        CHECKS.same("members of the document's face", found, FACE.length + 1);
    }

    private static String inOneLine(String text) {
        return text.trim().replaceAll("\\s+", " ");
    }

    private static String signature(Method method) {
        StringBuilder text = new StringBuilder(Modifier.toString(method.getModifiers()));
        text.append(' ').append(method.getReturnType()).append(' ').append(method.getName()).append('(');
        for (int i = 0; i < method.getParameterCount(); i++) {
            text.append(i == 0 ? "" : ",").append(method.getParameterTypes()[i]);
        }
        return text.append(')').toString();
    }

    private static void source() throws Exception {
        String text = Files.readString(Path.of("src/main/java/SleighPost.java"), StandardCharsets.UTF_8);
        for (String word : FORBIDDEN) {
            if (text.contains(word)) {
                CHECKS.report("the source has " + word);
            }
        }
        for (String line : text.split("\n")) {
            if (line.startsWith("import ") && !line.equals("import java.util.Arrays;")) {
                CHECKS.report("the source has " + line);
            }
        }
        for (int i = 0; i < text.length(); i++) {
            if (text.charAt(i) > 126) {
                CHECKS.report("the source has the sign " + (int) text.charAt(i));
            }
        }
    }
}
