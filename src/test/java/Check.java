import java.util.concurrent.Callable;

/** Compares answers with those that are due; a call that throws answers with the exception's name. */
final class Check {
    private static int passed = 0;
    private static int failed = 0;

    private Check() {
    }

    static String answer(Callable<?> call) {
        try {
            return String.valueOf(call.call());
        } catch (Exception e) {
            return e.getClass().getSimpleName();
        }
    }

    static void due(String what, Object want, Callable<?> call) {
        String got = answer(call);
        if (got.equals(String.valueOf(want))) {
            passed++;
        } else {
            failed++;
            System.out.println(what + ": answered " + got + ", due is " + want);
        }
    }

    /** Puts the text into the input and runs it. */
    static String run(LawnGardeners lawn, String text) {
        for (char c : text.toCharArray()) {
            lawn.append(c);
        }
        return answer(lawn::run);
    }

    static String line(LawnGardeners lawn, int length) {
        StringBuilder line = new StringBuilder();
        for (int i = 0; i < length; i++) {
            line.append(lawn.character(i));
        }
        return line.toString();
    }

    static void end() {
        System.out.println(passed + " answers as due, " + failed + " not");
        if (failed != 0) {
            System.exit(1);
        }
    }
}
