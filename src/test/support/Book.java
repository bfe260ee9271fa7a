import java.io.IOException;
import java.nio.file.Files;
import java.nio.file.Path;
import java.util.LinkedHashSet;
import java.util.NoSuchElementException;
import java.util.Set;

/** The document, sentence by sentence: each one is quoted, and followed by the checks of what it says. */
final class Book {
    static final Class<IndexOutOfBoundsException> INDEX = IndexOutOfBoundsException.class;
    static final Class<IllegalArgumentException> ARGUMENT = IllegalArgumentException.class;
    static final Class<IllegalStateException> STATE = IllegalStateException.class;
    static final Class<NoSuchElementException> ELEMENT = NoSuchElementException.class;

    interface Maker {
        LentRights make();
    }

    interface Call {
        double of(LentRights x);
    }

    interface NumberCall {
        double of(LentRights x, int number);
    }

    private static final int MOST_TOLD = 50;

    private final Set<String> sentences = new LinkedHashSet<>();
    private final Set<String> quoted = new LinkedHashSet<>();
    private String section = "";
    private String sentence = "";
    private int made;
    private int wrong;

    Book(Path document) throws IOException {
        String text = Files.readString(document).replaceAll("(?s)```.*?```", "");
        String heading = "";
        for (String line : text.split("\n")) {
            if (line.startsWith("#")) {
                heading = line.replaceAll("^#+ ", "");
            } else {
                for (String part : line.replaceAll("^`[^`]*`: ", "").split("(?<=[.)])\\s+(?=[(A-Z])")) {
                    take(heading, part);
                }
            }
        }
    }

    private void take(String heading, String part) {
        boolean isTitle = heading.equals("Terms") && part.split(" ").length < 4;
        if (!part.isBlank() && !isTitle) {
            sentences.add(heading + " | " + part);
        }
    }

    void section(String title) {
        section = title;
    }

    void says(String words) {
        sentence = section + " | " + words;
        quoted.add(sentence);
        if (!sentences.contains(sentence)) {
            complain("the document does not say so");
        }
    }

    /** For a sentence that names nothing that a call could answer. */
    void asksNothing(String words) {
        says(words);
    }

    void close() {
        for (String each : sentences) {
            sentence = each;
            if (!quoted.contains(each)) {
                complain("no test quotes this sentence");
            }
        }
        System.out.println(quoted.size() + " sentences, " + made + " checks, " + wrong + " wrong");
        if (wrong != 0) {
            System.exit(1);
        }
    }

    void same(double due, double got) {
        if (due != got) {
            complain("answered " + got + ", due is " + due);
        }
        made++;
    }

    void sameLong(long due, long got) {
        if (due != got) {
            complain("answered " + got + ", due is " + due);
        }
        made++;
    }

    void holds(boolean answer) {
        if (!answer) {
            complain("does not hold");
        }
        made++;
    }

    /** The call throws just this exception, and the object is then like one that was not called so. */
    void refuses(Class<? extends RuntimeException> due, Maker maker, Call call) {
        LentRights x = maker.make();
        Class<?> got = null;
        try {
            call.of(x);
        } catch (RuntimeException e) {
            got = e.getClass();
        }
        if (got != due) {
            complain("threw " + got + ", due is " + due);
        }
        made++;
        isUntouched(maker, x);
    }

    /** As refuses(), for the numbers next to the range and for those furthest from it. */
    void refusesOutside(int least, int most, Class<? extends RuntimeException> due, Maker maker, NumberCall call) {
        for (int number : new int[] {least - 1, most + 1, Integer.MIN_VALUE, Integer.MAX_VALUE}) {
            refuses(due, maker, x -> call.of(x, number));
        }
    }

    /** The call answers so for each number of the range. */
    void takes(int least, int most, Maker maker, NumberCall call, NumberCall due) {
        for (int number = least; number <= most; number++) {
            double want = due.of(maker.make(), number);
            same(want, call.of(maker.make(), number));
        }
    }

    /** The call answers so, and the object is then like one that was not called so. */
    void changesNothing(double due, Maker maker, Call call) {
        LentRights x = maker.make();
        same(due, call.of(x));
        isUntouched(maker, x);
    }

    /** The call answers so and saves one state: undo() leads back to an object like one that was not called so. */
    void undoable(double due, Maker maker, Call call) {
        LentRights x = maker.make();
        same(due, call.of(x));
        Look want = new Look(maker.make());
        same(Math.min(3, want.saved()), x.undo());
        Look got = new Look(x);
        if (want.saved() < 4 ? !got.isLike(want) : !got.isLikeButForTheOldest(want)) {
            complain("undone, it looks like " + got + ", due is " + want);
        }
        made++;
    }

    private void isUntouched(Maker maker, LentRights x) {
        Look want = new Look(maker.make());
        Look got = new Look(x);
        if (!got.isLike(want)) {
            complain("it looks like " + got + ", due is " + want);
        }
        made++;
    }

    private void complain(String what) {
        wrong++;
        if (wrong <= MOST_TOLD) {
            System.out.println(line() + sentence + " - " + what);
        }
    }

    /** The line of the test that asked, as a sentence can have many checks. */
    private static String line() {
        for (StackTraceElement call : new Throwable().getStackTrace()) {
            if (call.getClassName().startsWith("EdgesOf")) {
                return call.getFileName() + ":" + call.getLineNumber() + ": ";
            }
        }
        return "";
    }
}
