import java.util.Set;
import java.util.TreeSet;
import java.util.concurrent.Callable;

/** Compares answers with those that are due; a call that throws answers with the exception's name. */
final class Check {
    static final String NO_PLACE = "IndexOutOfBoundsException";
    static final String NO_NUMBER = "IllegalArgumentException";
    static final String REFUSED = "UnsupportedOperationException";
    static final String NOTHING = "NoSuchElementException";
    static final String NOT_NOW = "IllegalStateException";

    private static int passed = 0;
    private static int failed = 0;
    private static final Set<String> promises = new TreeSet<>();

    private Check() {
    }

    static String answer(Callable<?> call) {
        try {
            return String.valueOf(call.call());
        } catch (Exception e) {
            return e.getClass().getSimpleName();
        }
    }

    /** What begins with the number of the promise and a colon, if it is about one. */
    static void due(String what, Object want, Callable<?> call) {
        String got = answer(call);
        promises.add(what.split(":")[0]);
        if (got.equals(String.valueOf(want))) {
            passed++;
        } else {
            failed++;
            System.out.println(what + ": answered " + got + ", due is " + want);
        }
    }

    /** Puts the text into the input and runs it. */
    static String run(LawnGardeners lawn, String text) {
        for (char c : text.toCharArray()) {
            lawn.append(c);
        }
        return answer(lawn::run);
    }

    static String line(LawnGardeners lawn, int length) {
        StringBuilder line = new StringBuilder();
        for (int i = 0; i < length; i++) {
            line.append(lawn.character(i));
        }
        return line.toString();
    }

    /** Fails for each promise from the first to the last one that nothing so far was about. */
    static void eachPromise(int first, int last) {
        for (int promise = first; promise <= last; promise++) {
            String number = String.valueOf(promise);
            due("there is a test of promise " + number, true, () -> promises.contains(number));
        }
    }

    static void end() {
        System.out.println(passed + " answers as due, " + failed + " not");
        if (failed != 0) {
            System.exit(1);
        }
    }
}
