/** Counts and prints the answers that are not due; a test ends with end(). */
final class Checks {
    interface Call {
        double answer();
    }

    private int wrong = 0;

    void same(String what, double got, double due) {
        if (got != due) {
            report(what + " answered " + got + ", due is " + due);
        }
    }

    /** For 64-bit numbers, which a double does not hold. */
    void sameLong(String what, long got, long due) {
        if (got != due) {
            report(what + " answered " + got + ", due is " + due);
        }
    }

    /** A call that throws exactly this exception, and changes nothing that the object tells. */
    void refuses(String what, SleighPost post, Class<? extends RuntimeException> due, Call call) {
        long before = post.digest();
        try {
            report(what + " answered " + call.answer() + ", due is " + due.getSimpleName());
        } catch (RuntimeException thrown) {
            if (thrown.getClass() != due) {
                report(what + " threw " + thrown + ", due is " + due.getSimpleName());
            }
        }
        sameLong(what + ", digest after it", post.digest(), before);
    }

    void report(String text) {
        wrong++;
        System.out.println(text);
    }

    void end() {
        System.out.println(wrong == 0 ? "all answers are as due" : wrong + " answers are not as due");
        if (wrong != 0) {
            System.exit(1);
        }
    }
}
