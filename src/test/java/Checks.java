import java.nio.charset.StandardCharsets;
import java.nio.file.Files;
import java.nio.file.Path;
import java.util.ArrayList;
import java.util.List;

/** Counts and prints the answers that are not due; a test ends with end(). */
final class Checks {
    interface Call {
        double answer();
    }

    private final List<String> quoted = new ArrayList<>();
    private String sentence = "";
    private int wrong = 0;

    /** What is checked from now on is this sentence of a promise (0: of the terms, or of what stands ahead). */
    void sentence(int promise, String words) {
        quoted.add(words);
        sentence = (promise == 0 ? "Terms" : "Promise " + promise) + ", \"" + words + "\": ";
    }

    void same(String what, double got, double due) {
        if (got != due) {
            report(what + " answered " + got + ", due is " + due);
        }
    }

    /** For 64-bit numbers, which a double does not hold. */
    void sameLong(String what, long got, long due) {
        if (got != due) {
            report(what + " answered " + got + ", due is " + due);
        }
    }

    /** A call that throws exactly this exception, and changes nothing that the object tells. */
    void refuses(String what, SleighPost post, Class<? extends RuntimeException> due, Call call) {
        long before = post.digest();
        try {
            report(what + " answered " + call.answer() + ", due is " + due.getSimpleName());
        } catch (RuntimeException thrown) {
            if (thrown.getClass() != due) {
                report(what + " threw " + thrown + ", due is " + due.getSimpleName());
            }
        }
        sameLong(what + ", digest after it", post.digest(), before);
    }

    void index(String what, SleighPost post, Call call) {
        refuses(what, post, IndexOutOfBoundsException.class, call);
    }

    void argument(String what, SleighPost post, Call call) {
        refuses(what, post, IllegalArgumentException.class, call);
    }

    void state(String what, SleighPost post, Call call) {
        refuses(what, post, IllegalStateException.class, call);
    }

    void report(String text) {
        wrong++;
        System.out.println(sentence + text);
    }

    /** Prints the document's rows about parameters, answers and exceptions of which no sentence was quoted. */
    void printWhatIsNotQuoted(String document) throws Exception {
        String text = Files.readString(Path.of(document), StandardCharsets.UTF_8);
        for (String words : quoted) {
            if (!text.contains(words)) {
                System.out.println("not in the document: " + words);
            }
        }
        String[] promises = text.split("(?m)^## ");
        for (String promise : promises) {
            String name = promise.substring(0, Math.max(0, promise.indexOf('\n')));
            for (String row : promise.split("\n")) {
                boolean binds = row.contains("- `") || row.startsWith("Throws") || row.startsWith("Returns");
                boolean says = !row.equals("Returns this.") && !row.equals("Returns d.");
                if (name.startsWith("Promise") && binds && says && !isQuoted(row)) {
                    System.out.println(name + ": " + row);
                }
            }
        }
    }

    private boolean isQuoted(String row) {
        for (String words : quoted) {
            if (row.contains(words)) {
                return true;
            }
        }
        return false;
    }

    void end() {
        System.out.println(wrong == 0 ? "all answers are as due" : wrong + " answers are not as due");
        if (wrong != 0) {
            System.exit(1);
        }
    }
}
