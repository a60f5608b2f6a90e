import java.util.ArrayList;
import java.util.List;

/** Compares answers with those that are due, prints every wrong one, and ends with exit code 1 if there was one. */
final class Check {

    /** A call that may throw. */
    interface Call {
        void run();
    }

    /** What a test quotes from the document: the section (T1 to T6, P1 to P65) and a part of it. */
    record Quote(String section, String words) {
    }

    private final List<Quote> quotes = new ArrayList<>();
    private String sentence = "";
    private int wrong;
    private int checked;

    /** The checks that follow are those of this sentence of the document. */
    void about(String section, String words) {
        quotes.add(new Quote(section, words));
        sentence = section + " \"" + words + "\": ";
    }

    List<Quote> quotes() {
        return quotes;
    }

    void same(String what, long got, long due) {
        report(what, got == due, Long.toString(got), Long.toString(due));
    }

    void same(String what, double got, double due) {
        report(what, Double.compare(got, due) == 0, Double.toString(got), Double.toString(due));
    }

    void same(String what, float got, float due) {
        report(what, Float.compare(got, due) == 0, Float.toString(got), Float.toString(due));
    }

    void same(String what, String got, String due) {
        report(what, got.equals(due), got, due);
    }

    void yes(String what, boolean got) {
        report(what, got, "false", "true");
    }

    void no(String what, boolean got) {
        report(what, !got, "true", "false");
    }

    void index(String what, Call call) {
        fails(what, IndexOutOfBoundsException.class, call);
    }

    void argument(String what, Call call) {
        fails(what, IllegalArgumentException.class, call);
    }

    void state(String what, Call call) {
        fails(what, IllegalStateException.class, call);
    }

    void element(String what, Call call) {
        fails(what, java.util.NoSuchElementException.class, call);
    }

    /** The call throws nothing, or something else than an exception about an index. */
    void notIndex(String what, Call call) {
        String got = thrown(call);
        report(what, !got.equals(IndexOutOfBoundsException.class.getName()), got, "anything else");
    }

    // The exact class: one that the Java machine throws, such as
    // ArrayIndexOutOfBoundsException, must not pass for the class above it.
    private void fails(String what, Class<?> due, Call call) {
        String got = thrown(call);
        report(what, got.equals(due.getName()), got, due.getName());
    }

    static String thrown(Call call) {
        try {
            call.run();
            return "nothing thrown";
        } catch (RuntimeException e) {
            return e.getClass().getName();
        }
    }

    private void report(String what, boolean right, String got, String due) {
        checked++;
        if (!right) {
            wrong++;
            System.out.println(sentence + what + ": answered " + got + ", due is " + due);
        }
    }

    void end() {
        System.out.println(checked + " answers checked, " + wrong + " wrong");
        if (wrong != 0 || checked == 0) {
            System.exit(1);
        }
    }
}
