import java.util.Arrays;
import java.util.List;
import java.util.function.Function;
import java.util.function.Supplier;

/** Lawns to begin with, and looks at all that a lawn tells. */
final class Lawns {
    /** Each look is taken at a lawn of its own, for some of them change it, and it answers 512 calls alone. */
    private static final List<String> LOOKS =
        List.of("lawn", "counts", "turns", "past", "changes", "snapshot", "line", "input", "error", "reason");

    private Lawns() {
    }

    /** The whole numbers just outside of a range, and the farthest ones. */
    static int[] outside(int least, int most) {
        return new int[] {Integer.MIN_VALUE, least - 1, most + 1, Integer.MAX_VALUE};
    }

    /** A lawn on which hoes go straight on. */
    static LawnGardeners straight() {
        LawnGardeners lawn = new LawnGardeners();
        lawn.turn(0, 0);
        lawn.turn(1, 0);
        return lawn;
    }

    /** A lawn behind a text. */
    static LawnGardeners made(String text) {
        LawnGardeners lawn = new LawnGardeners();
        Check.due("31: " + text, text.split(";").length, () -> Check.run(lawn, text));
        return lawn;
    }

    /** Two hoes side by side, over the end of the row 0, that go towards one another. */
    static LawnGardeners facing(int manner) {
        LawnGardeners lawn = straight();
        if (manner != 0) {
            lawn.manner(manner);
        }
        lawn.hoe(0, 8, 1);
        lawn.hoe(0, 0, 3);
        return lawn;
    }

    /** There is room for more of all: two hoes, a snapshot, steps and changes, a line, an input and a reason. */
    static LawnGardeners some() {
        LawnGardeners lawn = made("h44u;h20r;s7");
        lawn.back();
        lawn.save();
        lawn.step(2);
        lawn.rowLine(4);
        Check.due("33: a reason to be kept", Check.REFUSED, () -> lawn.manner(0));
        lawn.append('s');
        lawn.append('3');
        return lawn;
    }

    /** No more hoes, colours, changes, steps to be taken back or cells of the trail can be; the input is empty. */
    static LawnGardeners full() {
        LawnGardeners lawn = made("k4;t2=U;h44u;h20r;h63d;h88l;s20");
        lawn.save();
        lawn.turn(3, 1);
        lawn.turn(3, 2);
        lawn.manner(1);
        lawn.step(40);
        lawn.back();
        lawn.back();
        lawn.step(5);
        lawn.step(1);
        lawn.rowLine(4);
        Check.due("33: a reason to be kept", Check.REFUSED, () -> lawn.turn(3, 2));
        Check.due("31: an error position to be kept", Check.NO_NUMBER, () -> Check.run(lawn, "h9z"));
        return lawn;
    }

    /** Full, and so is the input. */
    static LawnGardeners fullInput() {
        LawnGardeners lawn = full();
        String text = "s1;".repeat(19) + "s10";
        for (char c : text.toCharArray()) {
            lawn.append(c);
        }
        return lawn;
    }

    static List<Supplier<LawnGardeners>> all() {
        return List.of(LawnGardeners::new, Lawns::some, Lawns::full, Lawns::fullInput);
    }

    /** The call answers or throws what is due, and all that is looked at is as if it had not been made. */
    static void unchanged(String what, Object due, Supplier<LawnGardeners> maker, Function<LawnGardeners, Object> call,
            String... except) {
        for (String look : LOOKS) {
            LawnGardeners lawn = maker.get();
            Check.due(what, due, () -> call.apply(lawn));
            if (!Arrays.asList(except).contains(look)) {
                String before = look(look, maker.get());
                Check.due(what + ": the same " + look, before, () -> look(look, lawn));
            }
        }
    }

    /** The same of each of the lawns. */
    static void unchangedOnAll(String what, Object due, Function<LawnGardeners, Object> call) {
        for (Supplier<LawnGardeners> maker : all()) {
            unchanged(what, due, maker, call);
        }
    }

    /** The call is refused: reason and detail are kept, and nothing else is changed. */
    static void refused(String what, int reason, int detail, Supplier<LawnGardeners> maker,
            Function<LawnGardeners, Object> call) {
        unchanged(what, Check.REFUSED, maker, call, "reason");
        LawnGardeners lawn = maker.get();
        Check.answer(() -> call.apply(lawn));
        Check.due(what + ": reason", reason, () -> lawn.refusal(false));
        Check.due(what + ": detail", detail, () -> lawn.refusal(true));
    }

    static String look(String which, LawnGardeners lawn) {
        switch (which) {
            case "lawn": return accounts(lawn, 0, 1, 2, 3, 6, 7, 8) + cells(lawn) + hoes(lawn) + trail(lawn);
            case "counts": return accounts(lawn, 4, 5, 10);
            case "turns": return turns(lawn);
            case "past": return past(lawn);
            case "changes": return changes(lawn);
            case "snapshot":
                return Check.answer(lawn::restore) + accounts(lawn, 0, 1, 2, 3, 4, 5, 6, 7, 8, 10) + hoes(lawn);
            case "line": return line(lawn);
            case "input": return input(lawn);
            case "error": return "" + lawn.errorPosition();
            default: return Check.answer(() -> lawn.refusal(false)) + " " + Check.answer(() -> lawn.refusal(true));
        }
    }

    private static String accounts(LawnGardeners lawn, int... whats) {
        StringBuilder text = new StringBuilder();
        for (int what : whats) {
            text.append(what).append("=").append(lawn.account(what)).append(" ");
        }
        return text.toString();
    }

    private static String cells(LawnGardeners lawn) {
        StringBuilder text = new StringBuilder();
        for (int cell = 0; cell < 81; cell++) {
            text.append(lawn.at(cell / 9, cell % 9)).append(":").append(lawn.painted(cell / 9, cell % 9)).append(" ");
        }
        return text.toString();
    }

    private static String hoes(LawnGardeners lawn) {
        StringBuilder text = new StringBuilder();
        int hoes = lawn.account(0);
        for (int hoe = 0; hoe < hoes; hoe++) {
            for (int what = 0; what < 5; what++) {
                text.append(lawn.hoeOf(hoe, what)).append(what < 4 ? "," : " ");
            }
        }
        return text.toString();
    }

    private static String trail(LawnGardeners lawn) {
        StringBuilder text = new StringBuilder();
        int places = lawn.account(8);
        for (int place = 0; place < places; place++) {
            text.append(lawn.trail(place)).append(" ");
        }
        return text.toString();
    }

    /** Of all colours, also of those that there are not now. */
    private static String turns(LawnGardeners lawn) {
        return lawn.turnLine() + " " + Check.answer(() -> lawn.colours(4)) + lawn.turnLine() + Check.line(lawn, 4);
    }

    private static String past(LawnGardeners lawn) {
        StringBuilder text = new StringBuilder();
        int hoes = lawn.account(0);
        // One round more than there can be: a lawn that takes nothing back does not hold the tests up.
        for (int round = 0; round <= 30 && lawn.account(4) > 0; round++) {
            text.append(lawn.back());
            for (int hoe = 0; hoe < hoes; hoe++) {
                text.append(" ").append(lawn.willBe(hoe, 0)).append(lawn.hoeOf(hoe, 2));
            }
        }
        return text.append(Check.answer(lawn::back)).append(lawn.account(3)).toString();
    }

    private static String changes(LawnGardeners lawn) {
        StringBuilder text = new StringBuilder();
        for (int round = 0; round <= 8 && lawn.account(10) > 0; round++) {
            text.append(lawn.undo()).append(accounts(lawn, 0, 1, 2, 3, 4, 5, 6, 7, 8)).append(hoes(lawn));
        }
        return text.append(Check.answer(lawn::undo)).toString();
    }

    private static String line(LawnGardeners lawn) {
        StringBuilder text = new StringBuilder();
        for (int index = 0; index < 9; index++) {
            int it = index;
            text.append(Check.answer(() -> lawn.character(it)));
        }
        return text.toString();
    }

    /** What is in the input is seen by carrying it out. */
    private static String input(LawnGardeners lawn) {
        return lawn.account(9) + Check.answer(lawn::run) + lawn.errorPosition() + accounts(lawn, 0, 1, 2, 3, 9);
    }
}
