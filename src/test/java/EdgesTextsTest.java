import java.util.function.Supplier;

/** The promises 27 to 33 at their edges: lines, the input empty and full, errors at each place, orders refused. */
public final class EdgesTextsTest {
    private static final String DIGITS = "0123456789";
    /** For each order a text of it, and what can stand at each place of it. */
    private static final String[][] ORDERS = {
        {"h37u", "h", DIGITS, DIGITS, "urdl"}, {"h90r", "h", DIGITS, DIGITS, "urdl"},
        {"h09d", "h", DIGITS, DIGITS, "urdl"}, {"h99l", "h", DIGITS, DIGITS, "urdl"},
        {"x0", "x", DIGITS}, {"x9", "x", DIGITS}, {"p88=3", "p", DIGITS, DIGITS, "=", DIGITS},
        {"p99=9", "p", DIGITS, DIGITS, "=", DIGITS}, {"t0=N", "t", DIGITS, "=", "NRLU"},
        {"t9=R", "t", DIGITS, "=", "NRLU"}, {"t1=L", "t", DIGITS, "=", "NRLU"}, {"t3=U", "t", DIGITS, "=", "NRLU"},
        {"k0", "k", DIGITS}, {"k9", "k", DIGITS}, {"m0", "m", DIGITS}, {"m9", "m", DIGITS}, {"s0", "s", DIGITS},
        {"s1", "s", DIGITS}, {"s00", "s", DIGITS, DIGITS}, {"s99", "s", DIGITS, DIGITS}, {"b", "b"},
    };
    private static final String BEGINNINGS = "hxptkmsb";

    public static void main(String[] args) {
        rowOutOfRange();
        rowLines();
        turnLines();
        characterOutOfRange();
        lineStays();
        appendToAFullInput();
        appendOfAnyCharacter();
        runOfNothing();
        errorsAtEachPlace();
        textsThatEndTooEarly();
        textsOfTheGreatestLength();
        errorPositionStays();
        eachOrderIsCarriedOut();
        numbersOutOfRange();
        ordersThatAreRefused();
        theFirstOrderDecides();
        ordersThatMakeOthersPossible();
        errorsAheadOfOrders();
        stepsOfOneOrTwoDigits();
        textsTakeStepsBack();
        refusalOfNothing();
        refusalOfEachReason();
        refusalStays();
        Check.eachPromise(27, 33);
        Check.end();
    }

    private static void rowOutOfRange() {
        for (int wrong : Lawns.outside(0, 8)) {
            Lawns.unchangedOnAll("27: row " + wrong, Check.NO_PLACE, lawn -> lawn.rowLine(wrong));
        }
        Lawns.unchanged("27: the line alone is changed", 9, Lawns::some, lawn -> lawn.rowLine(0), "line");
        Lawns.unchanged("28: the line alone is changed", 2, Lawns::some, lawn -> lawn.turnLine(), "line");
    }

    private static void lineIs(String what, String due, LawnGardeners lawn) {
        Check.due(what, due, () -> Check.line(lawn, due.length()));
        Check.due("29: behind the line", Check.NO_PLACE, () -> lawn.character(due.length()));
    }

    private static void rowLines() {
        LawnGardeners lawn = Lawns.made("k4;p00=1;p08=2;p80=3;p88=1;p44=2;h01u;h07u;h81u;h44u");
        String[] due = {"1A00000B2", "000000000", "000000000", "000000000", "0000D0000", "000000000", "000000000",
            "000000000", "3C0000001"};
        for (int row = 0; row < 9; row++) {
            int it = row;
            Check.due("27: length of row " + row, 9, () -> lawn.rowLine(it));
            lineIs("27: row " + row, due[row], lawn);
        }
        for (int drops = 0; drops < 4; drops++) {
            LawnGardeners several = Lawns.made("t0=N;t1=N;h80d;h01l;h10u;h08r;s1");
            for (int dropped = 0; dropped < drops; dropped++) {
                several.drop(0);
            }
            several.rowLine(0);
            lineIs("27: several hoes on a cell", "A10000001", several);
        }
        LawnGardeners others = Lawns.made("t0=N;t1=N;h44u;h80d;h01l;s1");
        others.rowLine(0);
        lineIs("27: the lowest that is there", "B10000000", others);
        others.drop(0);
        others.rowLine(0);
        lineIs("27: its number is 1 less", "A10000000", others);
    }

    private static void turnLines() {
        LawnGardeners lawn = new LawnGardeners();
        String letters = "NRLU";
        for (int many = 2; many <= 4; many++) {
            int it = many;
            if (many > 2) {
                lawn.colours(many);
            }
            for (int turn = 0; turn < 4; turn++) {
                Check.run(lawn, "t" + (many - 1) + "=" + letters.charAt(turn));
                Check.due("28: length with " + many, it, lawn::turnLine);
                int last = turn;
                Check.due("28: the last of " + many, letters.charAt(turn), () -> lawn.character(it - 1));
                Check.due("5: turn " + turn, Check.REFUSED, () -> lawn.turn(it - 1, last));
            }
        }
        lineIs("28: all", "RUUU", lawn);
    }

    private static void characterOutOfRange() {
        for (int wrong : Lawns.outside(0, 8)) {
            Lawns.unchangedOnAll("29: index " + wrong, Check.NO_PLACE, lawn -> lawn.character(wrong));
        }
        LawnGardeners lawn = new LawnGardeners();
        Check.due("29: empty at first", Check.NO_PLACE, () -> lawn.character(0));
        for (int many = 2; many <= 4; many++) {
            if (many > 2) {
                lawn.colours(many);
            }
            lawn.rowLine(0);
            lawn.turnLine();
            for (int index = -1; index <= 9; index++) {
                int it = index;
                boolean is = index >= 0 && index < many;
                Check.due("29: index " + index + " of " + many, is, () -> !Check.NO_PLACE.equals(
                    Check.answer(() -> lawn.character(it))));
            }
        }
        lawn.rowLine(0);
        Check.due("29: the last of a row", '0', () -> lawn.character(8));
    }

    private static void lineStays() {
        LawnGardeners lawn = Lawns.some();
        lawn.turnLine();
        lawn.undo();
        lineIs("29: not undone", "RL", lawn);
        lawn.restore();
        lineIs("29: not in the snapshot", "RL", lawn);
        lawn.turn(0, 3);
        lawn.colours(4);
        lineIs("29: as it was written", "RL", lawn);
        Check.due("27: no such row", Check.NO_PLACE, () -> lawn.rowLine(9));
        lineIs("27: the line stays", "RL", lawn);
    }

    private static void appendToAFullInput() {
        Lawns.unchanged("30: the sixty-first", Check.NOT_NOW, Lawns::fullInput, lawn -> lawn.append(';'));
        LawnGardeners lawn = new LawnGardeners();
        for (int length = 1; length <= 60; length++) {
            int it = length;
            Check.due("30: characters then", length, () -> lawn.append('s'));
            Check.due("34: characters in the input", it, () -> lawn.account(9));
        }
        Check.due("30: full", Check.NOT_NOW, () -> lawn.append('s'));
        Check.due("30: still full", Check.NOT_NOW, () -> lawn.append('s'));
        Check.due("31: of s alone", Check.NO_NUMBER, lawn::run);
        Check.due("30: empty, and then the first", 1, () -> lawn.append('b'));
    }

    private static void appendOfAnyCharacter() {
        for (int sign : new int[] {0, 1, 31, 127, 128, 255, 256, 0x0660, 0xd800, 0xffff}) {
            LawnGardeners lawn = new LawnGardeners();
            Check.due("30: the character " + sign, 1, () -> lawn.append((char) sign));
            Check.due("31: the character " + sign, Check.NO_NUMBER, lawn::run);
            Check.due("32: the character " + sign, 0, lawn::errorPosition);
        }
    }

    private static void runOfNothing() {
        Lawns.unchanged("31: the empty text", Check.NO_NUMBER, LawnGardeners::new, lawn -> lawn.run(), "error");
        Lawns.unchanged("31: the empty text", Check.NO_NUMBER, Lawns::full, lawn -> lawn.run(), "error");
        LawnGardeners lawn = Lawns.full();
        Check.answer(lawn::run);
        Check.due("32: the empty text", 0, lawn::errorPosition);
    }

    private static void textIs(String text, int due) {
        for (String ahead : new String[] {"", "b;", "h00u;p00=1;s10;"}) {
            LawnGardeners lawn = new LawnGardeners();
            String answer = Check.run(lawn, ahead + text);
            int position = due < 0 ? -1 : ahead.length() + due;
            Check.due("32: " + ahead + text, position, lawn::errorPosition);
            Check.due("31: empty behind " + ahead + text, 0, () -> lawn.account(9));
            if (due >= 0) {
                Check.due("31: " + ahead + text, Check.NO_NUMBER, () -> answer);
                Check.due("31: nothing is changed by " + ahead + text, 0, () -> lawn.account(10) + lawn.account(0));
            }
        }
    }

    /** At each place of each order each character that cannot stand there. */
    private static void errorsAtEachPlace() {
        for (String[] order : ORDERS) {
            String text = order[0];
            textIs(text, -1);
            for (int place = 0; place < text.length(); place++) {
                String end = place == 2 && text.startsWith("s") ? ";" : "";
                String fits = place == 0 ? BEGINNINGS : order[place + 1] + end;
                for (char sign = 1; sign < 130; sign++) {
                    if (fits.indexOf(sign) < 0) {
                        textIs(text.substring(0, place) + sign, place);
                        textIs(text.substring(0, place) + sign + text.substring(place + 1) + ";b", place);
                    }
                }
            }
            String more = text.matches("s\\d") ? DIGITS + ";" : ";";
            for (char sign = 1; sign < 130; sign++) {
                if (more.indexOf(sign) < 0) {
                    textIs(text + sign, text.length());
                    textIs(text + sign + ";" + text, text.length());
                }
            }
        }
    }

    private static void textsThatEndTooEarly() {
        for (String[] order : ORDERS) {
            String text = order[0];
            for (int length = 0; length < text.length(); length++) {
                if (!text.substring(0, length).matches("s\\d")) {
                    textIs(text.substring(0, length), length);
                }
            }
            textIs(text + ";", text.length() + 1);
            textIs(text + ";;", text.length() + 1);
        }
    }

    private static void textsOfTheGreatestLength() {
        LawnGardeners lawn = Lawns.made("h44u");
        Check.due("31: sixty characters", "20", () -> Check.run(lawn, "s1;".repeat(19) + "s10"));
        Check.due("31: all of its steps", 29, () -> lawn.account(3));
        Check.due("31: thirty orders", "30", () -> Check.run(lawn, "s1" + ";b".repeat(29)));
        Check.due("31: as many steps taken back", 29, () -> lawn.account(5));
        Check.due("31: too early at the end", Check.NO_NUMBER, () -> Check.run(lawn, "s1;".repeat(20)));
        Check.due("32: too early at the end", 60, lawn::errorPosition);
        Check.due("31: wrong at the end", Check.NO_NUMBER, () -> Check.run(lawn, "s1;".repeat(19) + "s1x"));
        Check.due("32: wrong at the end", 59, lawn::errorPosition);
        Check.due("31: one order of five characters", "15", () -> Check.run(lawn, "s1;".repeat(14) + "p00=1"));
    }

    private static void errorPositionStays() {
        LawnGardeners lawn = Lawns.full();
        Check.due("32: of the latest text", 2, lawn::errorPosition);
        lawn.undo();
        Check.due("32: not undone", 2, lawn::errorPosition);
        lawn.restore();
        Check.due("32: not in the snapshot", 2, lawn::errorPosition);
        lawn.append('q');
        Check.due("32: not before it is run", 2, lawn::errorPosition);
        Check.answer(lawn::run);
        Check.due("32: of the later text", 0, lawn::errorPosition);
        Check.due("31: refused", Check.REFUSED, () -> Check.run(lawn, "h00u"));
        Check.due("32: a text that is refused has no error", -1, lawn::errorPosition);
        Check.run(lawn, "q");
        Check.due("31: a wrong number", Check.NO_NUMBER, () -> Check.run(lawn, "h99u"));
        Check.due("32: a wrong number is no error", -1, lawn::errorPosition);
        Check.run(lawn, "q");
        Check.due("31: carried out", "1", () -> Check.run(lawn, "b"));
        Check.due("32: a text that is carried out has no error", -1, lawn::errorPosition);
    }

    /** Each order is as its call, but for the number of changes. */
    private static void eachOrderIsCarriedOut() {
        String[] orders = {"h88d", "h00l", "x0", "x1", "p08=1", "t0=N", "t1=R", "t2=L", "t3=U", "k3", "k4", "m1", "m2",
            "s1", "s9", "s40", "b"};
        for (String order : orders) {
            for (String look : new String[] {"lawn", "counts", "turns", "past", "changes", "snapshot"}) {
                LawnGardeners one = Lawns.made("h44u;h20r;s7");
                LawnGardeners other = Lawns.made("h44u;h20r;s7");
                Check.due("31: " + order, "1", () -> Check.run(one, order));
                call(other, order);
                String due = Lawns.look(look, other);
                Check.due("31: as its call, " + order + ", " + look, due, () -> Lawns.look(look, one));
            }
        }
    }

    private static void call(LawnGardeners lawn, String order) {
        int first = order.length() > 1 ? order.charAt(1) - '0' : 0;
        switch (order.charAt(0)) {
            case 'h': lawn.hoe(first, order.charAt(2) - '0', "urdl".indexOf(order.charAt(3))); break;
            case 'x': lawn.drop(first); break;
            case 'p': lawn.paint(first, order.charAt(2) - '0', order.charAt(4) - '0'); break;
            case 't': lawn.turn(first, "NRLU".indexOf(order.charAt(3))); break;
            case 'k': lawn.colours(first); break;
            case 'm': lawn.manner(first); break;
            case 's': lawn.step(Integer.parseInt(order.substring(1))); break;
            default: lawn.back();
        }
    }

    private static void notCarriedOut(String text, String due, int reason, int detail, Supplier<LawnGardeners> maker) {
        if (due.equals(Check.REFUSED)) {
            Lawns.unchanged("31: " + text, due, maker, lawn -> run(lawn, text), "error", "reason");
            LawnGardeners lawn = maker.get();
            Check.run(lawn, text);
            Check.due("33: reason of " + text, reason, () -> lawn.refusal(false));
            Check.due("33: detail of " + text, detail, () -> lawn.refusal(true));
        } else {
            Lawns.unchanged("31: " + text, due, maker, lawn -> run(lawn, text), "error");
        }
        LawnGardeners lawn = maker.get();
        Check.run(lawn, text);
        Check.due("32: " + text, -1, lawn::errorPosition);
    }

    private static Object run(LawnGardeners lawn, String text) {
        for (char c : text.toCharArray()) {
            lawn.append(c);
        }
        return lawn.run();
    }

    private static LawnGardeners two() {
        LawnGardeners lawn = Lawns.made("h44u;h20r;s7;b;b");
        lawn.save();
        lawn.step(2);
        lawn.rowLine(4);
        Check.answer(() -> lawn.turn(0, 1));
        return lawn;
    }

    private static void numbersOutOfRange() {
        String[] orders = {"h90u", "h09u", "h99l", "x2", "x3", "x9", "p90=0", "p09=0", "p00=2", "p00=9", "p99=9",
            "t4=N", "t9=U", "k0", "k1", "k5", "k9", "m3", "m9", "s0", "s00", "s41", "s99"};
        for (String order : orders) {
            notCarriedOut(order, Check.NO_NUMBER, 0, 0, EdgesTextsTest::two);
            notCarriedOut("p08=1;s40;m1;" + order + ";b", Check.NO_NUMBER, 0, 0, EdgesTextsTest::two);
        }
        notCarriedOut("x0", Check.NO_NUMBER, 0, 0, LawnGardeners::new);
        notCarriedOut("x1;x1", Check.NO_NUMBER, 0, 0, EdgesTextsTest::two);
        notCarriedOut("k4;p00=3;k3;p00=3", Check.NO_NUMBER, 0, 0, EdgesTextsTest::two);
        notCarriedOut("h90u", Check.NO_NUMBER, 0, 0, Lawns::full);
        notCarriedOut("x4", Check.NO_NUMBER, 0, 0, Lawns::full);
    }

    private static void ordersThatAreRefused() {
        notCarriedOut("h88u;h00u;h80u", Check.REFUSED, 1, 4, EdgesTextsTest::two);
        notCarriedOut("h00u", Check.REFUSED, 1, 4, Lawns::full);
        notCarriedOut("s2;h88u;h88d", Check.REFUSED, 2, 2, EdgesTextsTest::two);
        notCarriedOut("x0;x0;h80u;h08u;h08u", Check.REFUSED, 2, 1, EdgesTextsTest::two);
        notCarriedOut("k3;k3", Check.REFUSED, 3, 3, EdgesTextsTest::two);
        notCarriedOut("k2", Check.REFUSED, 3, 2, EdgesTextsTest::two);
        notCarriedOut("t0=R", Check.REFUSED, 3, 1, EdgesTextsTest::two);
        notCarriedOut("t3=L;t3=L", Check.REFUSED, 3, 2, EdgesTextsTest::two);
        notCarriedOut("t2=U;t2=U", Check.REFUSED, 3, 3, EdgesTextsTest::two);
        notCarriedOut("t2=N", Check.REFUSED, 3, 0, EdgesTextsTest::two);
        notCarriedOut("p88=0", Check.REFUSED, 3, 0, EdgesTextsTest::two);
        notCarriedOut("k4;p88=3;p88=3", Check.REFUSED, 3, 3, EdgesTextsTest::two);
        notCarriedOut("m0", Check.REFUSED, 3, 0, EdgesTextsTest::two);
        notCarriedOut("m2;m2", Check.REFUSED, 3, 2, EdgesTextsTest::two);
        notCarriedOut("s1", Check.REFUSED, 4, 0, LawnGardeners::new);
        notCarriedOut("x0;x0;s40", Check.REFUSED, 4, 7, EdgesTextsTest::two);
        notCarriedOut("s5;b;x0;x0;s40", Check.REFUSED, 4, 11, EdgesTextsTest::two);
        notCarriedOut("b", Check.REFUSED, 5, 0, LawnGardeners::new);
        notCarriedOut("b;b;b;b;b;b;b;b", Check.REFUSED, 5, 9, EdgesTextsTest::two);
        notCarriedOut("s3;m1;b", Check.REFUSED, 5, 2, EdgesTextsTest::two);
        notCarriedOut("b;m1;s2;b;b;b", Check.REFUSED, 5, 5, EdgesTextsTest::two);
    }

    private static void theFirstOrderDecides() {
        notCarriedOut("k2;x5", Check.REFUSED, 3, 2, EdgesTextsTest::two);
        notCarriedOut("x5;k2", Check.NO_NUMBER, 0, 0, EdgesTextsTest::two);
        notCarriedOut("m0;k2", Check.REFUSED, 3, 0, EdgesTextsTest::two);
        notCarriedOut("k2;m0", Check.REFUSED, 3, 2, EdgesTextsTest::two);
        notCarriedOut("m1;s41;m1", Check.NO_NUMBER, 0, 0, EdgesTextsTest::two);
        notCarriedOut("m1;m1;s41", Check.REFUSED, 3, 1, EdgesTextsTest::two);
        notCarriedOut("h00u;h00u;h90u", Check.REFUSED, 2, 2, EdgesTextsTest::two);
    }

    private static void ordersThatMakeOthersPossible() {
        String[] texts = {"k3;p00=2", "k4;p00=3;k2", "h88u;x2;h88u", "x0;x0;h00u;s1;b", "m1;m0;m1", "t0=L;t0=R",
            "p00=1;p00=0", "h88u;h08u;x0;h80u", "s40;b;s40;b"};
        for (String text : texts) {
            LawnGardeners lawn = two();
            int orders = text.split(";").length;
            int changes = lawn.account(10);
            Check.due("31: " + text, String.valueOf(orders), () -> Check.run(lawn, text));
            Check.due("31: one change by " + text, changes + 1, () -> lawn.account(10));
            lawn.undo();
            Check.due("38: as ahead of " + text, Lawns.look("lawn", two()), () -> Lawns.look("lawn", lawn));
        }
    }

    private static void errorsAheadOfOrders() {
        for (String text : new String[] {"k2;q", "x5;q", "h88u;s1;q", "m1;b;", "s41;s"}) {
            Lawns.unchanged("31: an error behind orders: " + text, Check.NO_NUMBER, EdgesTextsTest::two,
                lawn -> run(lawn, text), "error");
        }
    }

    private static void stepsOfOneOrTwoDigits() {
        int[] steps = {1, 2, 9, 10, 11, 19, 20, 39, 40};
        for (int many : steps) {
            LawnGardeners lawn = Lawns.made("h44u;s" + many);
            Check.due("31: steps " + many, many, () -> lawn.account(3));
            if (many < 10) {
                LawnGardeners zero = Lawns.made("h44u;s0" + many);
                Check.due("31: steps 0" + many, many, () -> zero.account(3));
            }
        }
    }

    private static void textsTakeStepsBack() {
        LawnGardeners lawn = Lawns.made("h44u;s20;s20");
        Check.due("31: the latest thirty", 30, () -> lawn.account(4));
        Check.due("31: of an earlier text", "15", () -> Check.run(lawn, "b" + ";b".repeat(14)));
        Check.due("31: and of that one", "15", () -> Check.run(lawn, "b" + ";b".repeat(14)));
        Check.due("31: none is left", Check.REFUSED, () -> Check.run(lawn, "b"));
        Check.due("33: how many were", 30, () -> lawn.refusal(true));
        lawn.undo();
        Check.due("38: fifteen are back", 15, () -> lawn.account(4));
        Check.due("38: as many as were not taken back", 15, () -> lawn.account(5));
    }

    private static void refusalOfNothing() {
        for (boolean isDetail : new boolean[] {false, true}) {
            Lawns.unchanged("33: nothing", Check.NOTHING, LawnGardeners::new, lawn -> lawn.refusal(isDetail));
        }
        LawnGardeners lawn = new LawnGardeners();
        Check.answer(() -> lawn.hoe(9, 9, 9));
        Check.answer(() -> lawn.drop(0));
        Check.answer(() -> lawn.step(0));
        Check.answer(() -> lawn.turn(4, 0));
        Check.answer(lawn::isInverse);
        Check.answer(lawn::undo);
        Check.answer(lawn::restore);
        Check.run(lawn, "h99u");
        Check.run(lawn, "b;");
        Check.due("33: other exceptions are no refusals", Check.NOTHING, () -> lawn.refusal(false));
        Check.due("33: nor have they a detail", Check.NOTHING, () -> lawn.refusal(true));
    }

    private static void refusalOfEachReason() {
        Lawns.refused("33: four hoes", 1, 4, () -> Lawns.made("h00u;h01u;h02u;h03u"), lawn -> lawn.hoe(0, 0, 0));
        Lawns.refused("33: a hoe on the cell", 2, 1, () -> Lawns.made("h00u;h01u"), lawn -> lawn.hoe(0, 1, 0));
        Lawns.refused("33: so already", 3, 2, LawnGardeners::new, lawn -> lawn.turn(1, 2));
        Lawns.refused("33: no hoes", 4, 0, LawnGardeners::new, lawn -> lawn.step(1));
        Lawns.refused("33: no step", 5, 0, LawnGardeners::new, lawn -> lawn.back());
        Lawns.unchanged("33: a look changes nothing", 3, Lawns::full, lawn -> lawn.refusal(false));
        Lawns.unchanged("33: a look at the detail changes nothing", 2, Lawns::full, lawn -> lawn.refusal(true));
    }

    private static void refusalStays() {
        LawnGardeners lawn = Lawns.full();
        for (int i = 0; i < 8; i++) {
            lawn.undo();
            Check.due("33: not undone", 3, () -> lawn.refusal(false));
        }
        lawn.restore();
        Check.due("33: not in the snapshot", 2, () -> lawn.refusal(true));
        lawn.step(1);
        Check.due("33: successful calls leave it", 3, () -> lawn.refusal(false));
        Check.answer(() -> lawn.step(41));
        Check.due("33: wrong calls leave it", 2, () -> lawn.refusal(true));
        Check.answer(() -> lawn.hoe(0, 0, 0));
        Check.due("33: the latest reason", 1, () -> lawn.refusal(false));
        Check.due("33: the latest detail", 4, () -> lawn.refusal(true));
    }
}
