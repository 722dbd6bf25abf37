/** Each promise of the document by its number: ordinary inputs, the edges and wrong inputs. */
public final class PromisesTest {
    public static void main(String[] args) {
        newObject();
        hoe();
        drop();
        colours();
        turn();
        paint();
        manner();
        lookAtCells();
        hoeOf();
        step();
        meetings();
        back();
        backIsForgotten();
        isInverse();
        trail();
        painted();
        fields();
        willBe();
        willMeet();
        isBackIn();
        highway();
        ranked();
        lines();
        append();
        run();
        runRefused();
        errorPosition();
        refusal();
        account();
        isWell();
        shares();
        undo();
        saveAndRestore();
        Check.eachPromise(1, 40);
        Check.end();
    }

    private static void refusedFor(String what, LawnGardeners lawn, int reason, int detail) {
        Check.due(what + ": reason", reason, () -> lawn.refusal(false));
        Check.due(what + ": detail", detail, () -> lawn.refusal(true));
    }

    private static void newObject() {
        LawnGardeners lawn = new LawnGardeners();
        int[] due = {0, 2, 0, 0, 0, 0, 0, 0, 0, 0, 0};
        for (int what = 0; what < due.length; what++) {
            int it = what;
            Check.due("1: account " + what, due[what], () -> lawn.account(it));
        }
        for (int cell = 0; cell < 81; cell++) {
            int it = cell;
            Check.due("1: at " + cell, 0, () -> lawn.at(it / 9, it % 9));
        }
        Check.due("1: turnLine", 2, lawn::turnLine);
        Check.due("1: turns", "RL", () -> Check.line(lawn, 2));
        lawn.colours(4);
        lawn.turnLine();
        Check.due("1: all turns", "RLNN", () -> Check.line(lawn, 4));
    }

    private static void hoe() {
        LawnGardeners lawn = new LawnGardeners();
        Check.due("2: first", 0, () -> lawn.hoe(0, 0, 3));
        Check.due("2: second", 1, () -> lawn.hoe(8, 8, 0));
        Check.due("2: row", 8, () -> lawn.hoeOf(1, 0));
        Check.due("2: column", 8, () -> lawn.hoeOf(1, 1));
        Check.due("2: heading", 3, () -> lawn.hoeOf(0, 2));
        Check.due("2: row below", Check.NO_PLACE, () -> lawn.hoe(9, 0, 0));
        Check.due("2: row above", Check.NO_PLACE, () -> lawn.hoe(-1, 0, 0));
        Check.due("2: column to the right", Check.NO_PLACE, () -> lawn.hoe(0, 9, 0));
        Check.due("2: column to the left", Check.NO_PLACE, () -> lawn.hoe(0, -1, 4));
        Check.due("2: heading 4", Check.NO_NUMBER, () -> lawn.hoe(0, 0, 4));
        Check.due("2: heading -1", Check.NO_NUMBER, () -> lawn.hoe(0, 0, -1));
        Check.due("2: nothing refused so far", Check.NOTHING, () -> lawn.refusal(false));
        Check.due("2: hoe on the cell", Check.REFUSED, () -> lawn.hoe(8, 8, 1));
        refusedFor("2: hoe on the cell", lawn, 2, 1);
        lawn.hoe(1, 1, 0);
        Check.due("2: fourth", 3, () -> lawn.hoe(2, 2, 0));
        Check.due("2: fifth, on a hoe's cell", Check.REFUSED, () -> lawn.hoe(8, 8, 1));
        refusedFor("2: fifth", lawn, 1, 4);
        Check.due("2: still four", 4, () -> lawn.account(0));
    }

    private static void drop() {
        LawnGardeners lawn = Lawns.straight();
        lawn.hoe(0, 0, 0);
        lawn.hoe(4, 4, 1);
        lawn.hoe(7, 7, 2);
        lawn.step(2);
        Check.due("3: no such hoe", Check.NO_PLACE, () -> lawn.drop(3));
        Check.due("3: hoe -1", Check.NO_PLACE, () -> lawn.drop(-1));
        Check.due("3: drops", 2, () -> lawn.drop(1));
        Check.due("3: later one's row", 0, () -> lawn.hoeOf(1, 0));
        Check.due("3: later one's column", 7, () -> lawn.hoeOf(1, 1));
        Check.due("3: later one's heading", 2, () -> lawn.hoeOf(1, 2));
        Check.due("3: later one's goings", 2, () -> lawn.hoeOf(1, 3));
        Check.due("3: no hoe there now", 0, () -> lawn.on(4, 6));
        Check.due("3: the last", 1, () -> lawn.drop(1));
        Check.due("3: a new one", 1, () -> lawn.hoe(5, 5, 0));
        Check.due("3: a new one has not gone on", 0, () -> lawn.hoeOf(1, 3));
    }

    private static void colours() {
        LawnGardeners lawn = new LawnGardeners();
        Check.due("4: too few", Check.NO_NUMBER, () -> lawn.colours(1));
        Check.due("4: too many", Check.NO_NUMBER, () -> lawn.colours(5));
        Check.due("4: so already", Check.REFUSED, () -> lawn.colours(2));
        refusedFor("4: so already", lawn, 3, 2);
        Check.due("4: four", 0, () -> lawn.colours(4));
        lawn.paint(0, 0, 3);
        lawn.paint(0, 1, 2);
        lawn.paint(8, 8, 3);
        lawn.paint(4, 4, 1);
        Check.due("4: three", 2, () -> lawn.colours(3));
        Check.due("4: becomes 0", 0, () -> lawn.at(8, 8));
        Check.due("4: stays 2", 2, () -> lawn.at(0, 1));
        Check.due("4: two", 1, () -> lawn.colours(2));
        Check.due("4: stays 1", 1, () -> lawn.at(4, 4));
    }

    private static void turn() {
        LawnGardeners lawn = new LawnGardeners();
        Check.due("5: colour 4", Check.NO_NUMBER, () -> lawn.turn(4, 0));
        Check.due("5: colour -1", Check.NO_NUMBER, () -> lawn.turn(-1, 0));
        Check.due("5: turn 4", Check.NO_NUMBER, () -> lawn.turn(0, 4));
        Check.due("5: turn -1", Check.NO_NUMBER, () -> lawn.turn(0, -1));
        Check.due("5: so already", Check.REFUSED, () -> lawn.turn(1, 2));
        refusedFor("5: so already", lawn, 3, 2);
        Check.due("5: turn before", 1, () -> lawn.turn(0, 3));
        Check.due("5: turn before that", 3, () -> lawn.turn(0, 2));
        Check.due("5: of a colour that is not", 0, () -> lawn.turn(3, 1));
        lawn.colours(4);
        lawn.turnLine();
        Check.due("5: the turns", "LLNR", () -> Check.line(lawn, 4));
    }

    private static void paint() {
        LawnGardeners lawn = new LawnGardeners();
        Check.due("6: no cell, no colour", Check.NO_PLACE, () -> lawn.paint(9, 0, 7));
        Check.due("6: no column", Check.NO_PLACE, () -> lawn.paint(0, -1, 0));
        Check.due("6: no colour now", Check.NO_NUMBER, () -> lawn.paint(0, 0, 2));
        Check.due("6: colour -1", Check.NO_NUMBER, () -> lawn.paint(0, 0, -1));
        Check.due("6: so already", Check.REFUSED, () -> lawn.paint(0, 0, 0));
        refusedFor("6: so already", lawn, 3, 0);
        Check.due("6: paints", 0, () -> lawn.paint(3, 5, 1));
        Check.due("6: painted", 1, () -> lawn.at(3, 5));
        Check.due("6: not the other", 0, () -> lawn.at(5, 3));
        lawn.colours(3);
        Check.due("6: paints again", 1, () -> lawn.paint(3, 5, 2));
        Check.due("6: no hoe painted it", 0, () -> lawn.painted(3, 5));
        Check.due("6: no trail", 0, () -> lawn.account(8));
    }

    private static void manner() {
        LawnGardeners lawn = new LawnGardeners();
        Check.due("7: manner 3", Check.NO_NUMBER, () -> lawn.manner(3));
        Check.due("7: manner -1", Check.NO_NUMBER, () -> lawn.manner(-1));
        Check.due("7: so already", Check.REFUSED, () -> lawn.manner(0));
        refusedFor("7: so already", lawn, 3, 0);
        Check.due("7: manner before", 0, () -> lawn.manner(2));
        Check.due("7: manner before that", 2, () -> lawn.manner(1));
        Check.due("7: account", 1, () -> lawn.account(2));
    }

    private static void lookAtCells() {
        LawnGardeners lawn = Lawns.straight();
        lawn.hoe(0, 8, 1);
        lawn.hoe(8, 0, 2);
        lawn.step(1);
        Check.due("8: painted by a hoe", 1, () -> lawn.at(0, 8));
        Check.due("8: not painted", 0, () -> lawn.at(0, 0));
        Check.due("10: two hoes", 2, () -> lawn.on(0, 0));
        Check.due("10: none", 0, () -> lawn.on(0, 8));
        int[][] wrong = {{-1, 0}, {9, 0}, {0, -1}, {0, 9}, {Integer.MIN_VALUE, 0}, {0, Integer.MAX_VALUE}};
        for (int[] cell : wrong) {
            Check.due("8: no such cell", Check.NO_PLACE, () -> lawn.at(cell[0], cell[1]));
            Check.due("10: no such cell", Check.NO_PLACE, () -> lawn.on(cell[0], cell[1]));
            Check.due("15: no such cell", Check.NO_PLACE, () -> lawn.painted(cell[0], cell[1]));
            Check.due("19: no such cell", Check.NO_PLACE, () -> lawn.field(cell[0], cell[1]));
        }
    }

    private static void hoeOf() {
        LawnGardeners lawn = Lawns.straight();
        lawn.hoe(2, 3, 1);
        lawn.hoe(2, 4, 3);
        lawn.step(1);
        int[] due = {2, 4, 1, 1, 1};
        for (int what = 0; what < due.length; what++) {
            int it = what;
            Check.due("9: number " + what, due[what], () -> lawn.hoeOf(0, it));
        }
        Check.due("9: the other finds nobody where the first was", 0, () -> lawn.hoeOf(1, 4));
        Check.due("9: what 5", Check.NO_NUMBER, () -> lawn.hoeOf(0, 5));
        Check.due("9: what -1", Check.NO_NUMBER, () -> lawn.hoeOf(0, -1));
        Check.due("9: no such hoe", Check.NO_PLACE, () -> lawn.hoeOf(2, 9));
        Check.due("9: hoe -1", Check.NO_PLACE, () -> lawn.hoeOf(-1, 0));
    }

    private static void step() {
        LawnGardeners lawn = new LawnGardeners();
        Check.due("11: no steps, no hoes", Check.NO_NUMBER, () -> lawn.step(0));
        Check.due("11: too many", Check.NO_NUMBER, () -> lawn.step(41));
        Check.due("11: no hoes", Check.REFUSED, () -> lawn.step(40));
        refusedFor("11: no hoes", lawn, 4, 0);
        lawn.hoe(0, 0, 0);
        Check.due("11: one step", 1, () -> lawn.step(1));
        Check.due("11: turned to the right", 1, () -> lawn.hoeOf(0, 2));
        Check.due("11: next colour", 1, () -> lawn.at(0, 0));
        lawn.paint(0, 1, 1);
        Check.due("11: on the colour 1", 1, () -> lawn.step(1));
        Check.due("11: turned to the left", 0, () -> lawn.hoeOf(0, 2));
        Check.due("11: 0 is next behind the last", 0, () -> lawn.at(0, 1));
        Check.due("11: over the end", 8, () -> lawn.hoeOf(0, 0));
        lawn.turn(0, 3);
        lawn.step(1);
        Check.due("11: turned back", 2, () -> lawn.hoeOf(0, 2));
        Check.due("11: and over the end again", 0, () -> lawn.hoeOf(0, 0));
        lawn.hoe(5, 5, 0);
        Check.due("11: forty steps of two hoes", 80, () -> lawn.step(40));
        lawn.drop(0);
        lawn.drop(0);
        Check.due("11: no hoes any more", Check.REFUSED, () -> lawn.step(1));
        refusedFor("11: no hoes any more", lawn, 4, 43);
    }

    private static void meetings() {
        LawnGardeners through = facing(0);
        Check.due("11: through: both go on", 2, () -> through.step(1));
        Check.due("11: through: the first meets", 1, () -> through.hoeOf(0, 4));
        Check.due("11: through: the second does not", 0, () -> through.hoeOf(1, 4));
        Check.due("11: through: where the other was", 1, () -> through.on(0, 1));
        LawnGardeners wait = facing(1);
        Check.due("11: wait: none goes on", 0, () -> wait.step(1));
        Check.due("11: wait: both meet", 2, () -> wait.account(7));
        Check.due("11: wait: it painted", 1, () -> wait.at(0, 0));
        Check.due("11: wait: it stays", 0, () -> wait.hoeOf(0, 1));
        Check.due("11: wait: its heading stays", 1, () -> wait.hoeOf(0, 2));
        LawnGardeners back = facing(2);
        Check.due("11: turn back: the second goes away", 1, () -> back.step(1));
        Check.due("11: turn back: first's heading", 3, () -> back.hoeOf(0, 2));
        Check.due("11: turn back: second's heading", 1, () -> back.hoeOf(1, 2));
        Check.due("11: turn back: second's column", 2, () -> back.hoeOf(1, 1));
        Check.due("11: turn back: only the first met", 1, () -> back.account(7));
        LawnGardeners turned = new LawnGardeners();
        turned.manner(1);
        turned.hoe(4, 4, 3);
        turned.hoe(3, 4, 0);
        turned.step(1);
        Check.due("11: waits, and has turned first", 0, () -> turned.hoeOf(0, 2));
        Check.due("11: waits, and is on its cell", 1, () -> turned.on(4, 4));
        Check.due("11: waits, and has painted first", 1, () -> turned.painted(4, 4));
        LawnGardeners pair = Lawns.straight();
        pair.manner(2);
        pair.hoe(4, 4, 1);
        pair.hoe(4, 5, 0);
        pair.step(1);
        Check.due("11: the one that stands there turns back", 2, () -> pair.hoeOf(1, 2));
        Check.due("11: and goes on in its own turn", 5, () -> pair.hoeOf(1, 0));
        groups();
    }

    /** Two hoes side by side that go towards one another on the row 0. */
    private static LawnGardeners facing(int manner) {
        LawnGardeners lawn = Lawns.straight();
        if (manner != 0) {
            lawn.manner(manner);
        }
        lawn.hoe(0, 0, 1);
        lawn.hoe(0, 1, 3);
        return lawn;
    }

    private static void groups() {
        LawnGardeners lawn = Lawns.straight();
        lawn.hoe(0, 4, 0);
        lawn.hoe(8, 3, 1);
        lawn.hoe(7, 4, 2);
        lawn.step(1);
        Check.due("11: three on a cell", 3, () -> lawn.on(8, 4));
        Check.due("11: two hoes on a cell make one meeting", 2, () -> lawn.account(7));
        // The hoe 3 moves last, when the others have gone: one to (7, 4), one to (8, 5), one to (0, 4).
        lawn.hoe(6, 4, 2);
        lawn.manner(2);
        Check.due("11: three go on, then one stays", 3, () -> lawn.step(1));
        Check.due("11: it turned back", 0, () -> lawn.hoeOf(3, 2));
        Check.due("11: the other turned back", 2, () -> lawn.hoeOf(0, 2));
        turnBackAll();
    }

    /** A hoe that comes to a cell with two others turns back all three. */
    private static void turnBackAll() {
        LawnGardeners lawn = Lawns.straight();
        lawn.hoe(2, 5, 2);
        lawn.hoe(4, 4, 1);
        lawn.hoe(4, 6, 3);
        lawn.step(1);
        lawn.manner(2);
        Check.due("11: two on the cell below", 2, () -> lawn.on(4, 5));
        Check.due("11: the two go on", 2, () -> lawn.step(1));
        Check.due("11: the first turned back", 0, () -> lawn.hoeOf(0, 2));
        Check.due("11: the second turned back", 3, () -> lawn.hoeOf(1, 2));
        Check.due("11: and is where it came from", 4, () -> lawn.hoeOf(1, 1));
        Check.due("11: the third turned back", 1, () -> lawn.hoeOf(2, 2));
        Check.due("11: and is where it came from, too", 6, () -> lawn.hoeOf(2, 1));
        Check.due("11: one meeting", 1, () -> lawn.hoeOf(0, 4));
        Check.due("11: a meeting counts for the mover alone", 0, () -> lawn.hoeOf(1, 4));
    }

    private static void back() {
        LawnGardeners lawn = Lawns.straight();
        Check.due("12: no step", Check.REFUSED, lawn::back);
        refusedFor("12: no step", lawn, 5, 0);
        lawn.hoe(4, 4, 1);
        lawn.hoe(4, 5, 3);
        lawn.step(3);
        Check.due("12: one can be taken back", 2, lawn::back);
        Check.due("12: none more", 1, lawn::back);
        Check.due("12: cell", 5, () -> lawn.hoeOf(0, 1));
        Check.due("12: goings", 1, () -> lawn.hoeOf(0, 3));
        Check.due("12: meetings", 1, () -> lawn.hoeOf(0, 4));
        Check.due("12: steps made", 1, () -> lawn.account(3));
        Check.due("12: steps taken back", 2, () -> lawn.account(5));
        Check.due("12: trail", 2, () -> lawn.account(8));
        Check.due("12: painted", 0, () -> lawn.painted(4, 6));
        Check.due("12: colour", 1, () -> lawn.at(4, 5));
        Check.due("12: the last", 0, lawn::back);
        Check.due("12: heading", 3, () -> lawn.hoeOf(1, 2));
        Check.due("12: lawn", 81, () -> lawn.count(0));
        Check.due("12: no more", Check.REFUSED, lawn::back);
        refusedFor("12: no more", lawn, 5, 3);
        lawn.step(40);
        Check.due("12: thirty at most", 30, () -> lawn.account(4));
        for (int left = 29; left >= 0; left--) {
            Check.due("12: left", left, lawn::back);
        }
        Check.due("12: the oldest ten stay", 10, () -> lawn.account(3));
        Check.due("12: no thirty-first", Check.REFUSED, lawn::back);
        refusedFor("12: no thirty-first", lawn, 5, 33);
        lawn.step(29);
        lawn.step(1);
        lawn.back();
        lawn.step(1);
        Check.due("12: thirty again", 30, () -> lawn.account(4));
    }

    private static void backIsForgotten() {
        LawnGardeners lawn = new LawnGardeners();
        lawn.hoe(4, 4, 1);
        String[] changes = {"hoe", "drop", "colours", "turn", "paint", "manner"};
        for (int change = 0; change < changes.length; change++) {
            lawn.step(2);
            Check.due("12: two ahead of " + changes[change], 2, () -> lawn.account(4));
            Check.due("12: refused changes forget nothing", Check.REFUSED, () -> lawn.turn(2, 0));
            Check.due("12: nor do wrong ones", Check.NO_NUMBER, () -> lawn.colours(9));
            switch (change) {
                case 0: lawn.hoe(0, 0, 0); break;
                case 1: lawn.drop(1); break;
                case 2: lawn.colours(3); break;
                case 3: lawn.turn(3, 1); break;
                case 4: lawn.paint(8, 8, 2); break;
                default: lawn.manner(1);
            }
            Check.due("12: none behind " + changes[change], 0, () -> lawn.account(4));
        }
        lawn.step(2);
        lawn.save();
        lawn.undo();
        lawn.restore();
        Check.due("12: save and restore do not forget", 2, () -> lawn.account(4));
    }

    private static void isInverse() {
        LawnGardeners lawn = new LawnGardeners();
        Check.due("13: no step", Check.NOTHING, lawn::isInverse);
        lawn.colours(4);
        lawn.turn(2, 3);
        lawn.hoe(4, 4, 0);
        lawn.hoe(4, 5, 3);
        Check.due("13: still no step", Check.NOTHING, lawn::isInverse);
        for (int i = 0; i < 30; i++) {
            lawn.step(1);
            Check.due("13: step " + i, true, lawn::isInverse);
        }
        for (int i = 0; i < 29; i++) {
            lawn.back();
            Check.due("13: back " + i, true, lawn::isInverse);
        }
        lawn.back();
        Check.due("13: none left", Check.NOTHING, lawn::isInverse);
        LawnGardeners wait = facing(1);
        wait.step(1);
        Check.due("13: by the manner 1", false, wait::isInverse);
        LawnGardeners turnBack = facing(2);
        turnBack.step(1);
        Check.due("13: by the manner 2", false, turnBack::isInverse);
        LawnGardeners apart = Lawns.straight();
        apart.manner(1);
        apart.hoe(4, 4, 1);
        apart.step(1);
        Check.due("13: by the manner 1 without a meeting", true, apart::isInverse);
        LawnGardeners coloursFit = Lawns.made("t0=L;t1=U;h45u;h54r;h53d;h33r;s1;m2;s1");
        Check.due("13: the colours alone fit", false, coloursFit::isInverse);
        LawnGardeners headingsFit = Lawns.made("t0=U;t1=N;h35u;h45r;h43r;h33d;s3;m2;s1");
        Check.due("13: the colours and headings alone fit", false, headingsFit::isInverse);
    }

    private static void trail() {
        LawnGardeners lawn = Lawns.straight();
        Check.due("14: empty", Check.NOTHING, () -> lawn.trail(0));
        lawn.hoe(0, 0, 1);
        lawn.step(9);
        Check.due("14: nine cells", 9, () -> lawn.account(8));
        Check.due("14: the latest", 8, () -> lawn.trail(0));
        Check.due("14: the first", 0, () -> lawn.trail(8));
        Check.due("14: no such place", Check.NOTHING, () -> lawn.trail(9));
        Check.due("14: place -1", Check.NOTHING, () -> lawn.trail(-1));
        lawn.step(1);
        Check.due("14: each once", 9, () -> lawn.account(8));
        Check.due("14: painted again", 0, () -> lawn.trail(0));
        Check.due("14: the others behind it", 8, () -> lawn.trail(1));
        Check.due("14: the oldest now", 1, () -> lawn.trail(8));
        lawn.hoe(5, 0, 1);
        lawn.step(4);
        Check.due("14: twelve at most", 12, () -> lawn.account(8));
        Check.due("14: of the second hoe", 48, () -> lawn.trail(0));
        Check.due("14: of the first hoe", 4, () -> lawn.trail(1));
        Check.due("14: the twelfth", 6, () -> lawn.trail(11));
        Check.due("14: no thirteenth", Check.NOTHING, () -> lawn.trail(12));
    }

    private static void painted() {
        LawnGardeners lawn = Lawns.straight();
        lawn.hoe(0, 0, 1);
        lawn.step(19);
        Check.due("15: three times", 3, () -> lawn.painted(0, 0));
        Check.due("15: twice", 2, () -> lawn.painted(0, 1));
        Check.due("15: never", 0, () -> lawn.painted(1, 0));
        Check.due("15: cells painted", 9, () -> lawn.account(6));
        lawn.back();
        Check.due("15: taken back", 2, () -> lawn.painted(0, 0));
    }

    private static void fields() {
        LawnGardeners lawn = new LawnGardeners();
        lawn.colours(3);
        lawn.paint(0, 0, 1);
        lawn.paint(8, 0, 1);
        lawn.paint(0, 8, 1);
        lawn.paint(1, 1, 1);
        lawn.paint(4, 4, 1);
        lawn.paint(7, 7, 2);
        int[] counts = {75, 5, 1, 0};
        int[] fields = {1, 3, 1, 0};
        int[] greatest = {75, 3, 1, 0};
        for (int colour = 0; colour < 4; colour++) {
            int it = colour;
            Check.due("16: " + colour, counts[colour], () -> lawn.count(it));
            Check.due("17: " + colour, fields[colour], () -> lawn.fields(it));
            Check.due("18: " + colour, fields[colour], () -> lawn.fieldsAgain(it));
            Check.due("20: " + colour, greatest[colour], () -> lawn.greatest(it));
        }
        Check.due("19: across the ends", 3, () -> lawn.field(8, 0));
        Check.due("19: not across corners", 1, () -> lawn.field(1, 1));
        Check.due("19: of the colour 0", 75, () -> lawn.field(8, 8));
        for (int colour : new int[] {-1, 4, Integer.MAX_VALUE, Integer.MIN_VALUE}) {
            Check.due("16: no colour", Check.NO_NUMBER, () -> lawn.count(colour));
            Check.due("17: no colour", Check.NO_NUMBER, () -> lawn.fields(colour));
            Check.due("18: no colour", Check.NO_NUMBER, () -> lawn.fieldsAgain(colour));
            Check.due("20: no colour", Check.NO_NUMBER, () -> lawn.greatest(colour));
        }
        snake();
    }

    /** A long field that winds down the lawn, for which numbers need many rounds. */
    private static void snake() {
        LawnGardeners lawn = new LawnGardeners();
        for (int row = 0; row < 8; row += 2) {
            for (int column = 0; column < 8; column++) {
                lawn.paint(row, column, 1);
            }
            lawn.paint(row + 1, row % 4 == 0 ? 7 : 0, 1);
        }
        Check.due("17: snake", 1, () -> lawn.fields(1));
        Check.due("18: snake", 1, () -> lawn.fieldsAgain(1));
        Check.due("20: snake", 36, () -> lawn.greatest(1));
        lawn.paint(3, 0, 0);
        Check.due("17: cut", 2, () -> lawn.fields(1));
        Check.due("18: cut", 2, () -> lawn.fieldsAgain(1));
        Check.due("20: cut", 18, () -> lawn.greatest(1));
    }

    private static void willBe() {
        LawnGardeners lawn = Lawns.straight();
        lawn.hoe(4, 4, 1);
        Check.due("21: now", 40, () -> lawn.willBe(0, 0));
        Check.due("21: next", 41, () -> lawn.willBe(0, 1));
        Check.due("21: over the end", 36, () -> lawn.willBe(0, 5));
        Check.due("21: at the most", 36 + (4 + 200) % 9, () -> lawn.willBe(0, 200));
        Check.due("21: too many", Check.NO_NUMBER, () -> lawn.willBe(0, 201));
        Check.due("21: too few", Check.NO_NUMBER, () -> lawn.willBe(0, -1));
        Check.due("21: no hoe", Check.NO_PLACE, () -> lawn.willBe(1, 201));
        Check.due("21: hoe -1", Check.NO_PLACE, () -> lawn.willBe(-1, 0));
        Check.due("21: nothing moved", 4, () -> lawn.hoeOf(0, 1));
        Check.due("21: nothing painted", 81, () -> lawn.count(0));
    }

    private static void willMeet() {
        LawnGardeners lawn = Lawns.straight();
        Check.due("22: no hoes", 0, () -> lawn.willMeet(200));
        Check.due("22: too many", Check.NO_NUMBER, () -> lawn.willMeet(201));
        Check.due("22: too few", Check.NO_NUMBER, () -> lawn.willMeet(-1));
        Check.due("23: no hoes", Check.NOTHING, lawn::meetIn);
        lawn.hoe(0, 0, 1);
        lawn.hoe(0, 4, 3);
        lawn.step(1);
        Check.due("22: none in no steps", 0, () -> lawn.willMeet(0));
        Check.due("22: one", 1, () -> lawn.willMeet(1));
        Check.due("23: in the next", 1, lawn::meetIn);
        lawn.step(1);
        Check.due("22: only what comes", 0, () -> lawn.willMeet(1));
        Check.due("23: later", 5, lawn::meetIn);
        Check.due("22: that one, too", 1, () -> lawn.willMeet(5));
        lawn.drop(1);
        lawn.hoe(1, 0, 1);
        Check.due("23: never", Check.NOTHING, lawn::meetIn);
        LawnGardeners wait = facing(1);
        Check.due("22: by the manner 1", 400, () -> wait.willMeet(200));
        LawnGardeners late = Lawns.made("k3;t0=L;h14l;h25r;s37");
        Check.due("23: in the last of 200 steps", 200, late::meetIn);
        Check.due("22: in that step", 0, () -> late.willMeet(199));
        Check.due("22: with that step", true, () -> late.willMeet(200) > 0);
        late.back();
        Check.due("23: a step too late", Check.NOTHING, late::meetIn);
        Check.due("22: a step too late", 0, () -> late.willMeet(200));
    }

    private static void isBackIn() {
        LawnGardeners lawn = new LawnGardeners();
        Check.due("24: no hoe", Check.NO_PLACE, () -> lawn.isBackIn(0));
        lawn.hoe(4, 4, 0);
        Check.due("24: round four cells", 4, () -> lawn.isBackIn(0));
        Check.due("24: hoe 1", Check.NO_PLACE, () -> lawn.isBackIn(1));
        Check.due("24: hoe -1", Check.NO_PLACE, () -> lawn.isBackIn(-1));
        LawnGardeners straight = Lawns.straight();
        straight.hoe(4, 4, 0);
        Check.due("24: round the lawn", 9, () -> straight.isBackIn(0));
        LawnGardeners wait = facing(1);
        Check.due("24: a hoe that waits", 1, () -> wait.isBackIn(0));
        LawnGardeners late = Lawns.made("k4;t0=L;t3=U;h06u;s30");
        Check.due("24: behind the last of 200 steps", 200, () -> late.isBackIn(0));
        LawnGardeners tooLate = Lawns.made("t0=N;t1=R;h83l;h42u;s39");
        int there = tooLate.willBe(0, 0);
        Check.due("24: behind 201 steps", Check.NOTHING, () -> tooLate.isBackIn(0));
        tooLate.step(1);
        Check.due("21: there behind 201 steps", there, () -> tooLate.willBe(0, 200));
    }

    private static void highway() {
        LawnGardeners lawn = new LawnGardeners();
        Check.due("25: no hoe", Check.NO_PLACE, () -> lawn.highway(0));
        lawn.turn(1, 1);
        lawn.hoe(4, 4, 0);
        Check.due("25: always the same turn", 1, () -> lawn.highway(0));
        Check.due("25: hoe 1", Check.NO_PLACE, () -> lawn.highway(1));
        lawn.turn(1, 2);
        Check.due("25: the next three steps are enough for 1", 1, () -> lawn.highway(0));
        lawn.step(40);
        lawn.step(3);
        Check.due("25: none", Check.NOTHING, () -> lawn.highway(0));
        LawnGardeners stairs = new LawnGardeners();
        stairs.hoe(4, 4, 0);
        stairs.paint(4, 5, 1);
        stairs.paint(3, 6, 1);
        stairs.paint(2, 7, 1);
        Check.due("25: stairs, right and left three times", 2, () -> stairs.highway(0));
        stairs.paint(2, 7, 0);
        Check.due("25: not 2, the last turn is another", true,
            () -> !"2".equals(Check.answer(() -> stairs.highway(0))));
        LawnGardeners longest = Lawns.made("t0=U;t1=N;m1;p87=1;h47d;h07d;s29");
        Check.due("25: the longest", 40, () -> longest.highway(0));
        LawnGardeners tooLong = Lawns.made("k3;t0=U;t2=L;m2;h03l;h61r;h02l;h70d;s36");
        Check.due("25: one of 41 is too long", Check.NOTHING, () -> tooLong.highway(0));
    }

    private static void ranked() {
        LawnGardeners lawn = Lawns.straight();
        Check.due("26: no hoes", Check.NOTHING, () -> lawn.ranked(0));
        lawn.hoe(0, 0, 1);
        lawn.hoe(2, 0, 1);
        lawn.step(2);
        lawn.hoe(4, 0, 1);
        lawn.hoe(6, 0, 1);
        lawn.manner(1);
        Check.due("26: of several the lowest", 0, () -> lawn.ranked(0));
        Check.due("26: then the next", 1, () -> lawn.ranked(1));
        Check.due("26: then those that did not go on", 2, () -> lawn.ranked(2));
        lawn.drop(0);
        lawn.hoe(8, 0, 1);
        lawn.hoeOf(0, 3);
        lawn.drop(0);
        lawn.step(1);
        lawn.hoe(0, 0, 1);
        Check.due("26: alike", 0, () -> lawn.ranked(0));
        Check.due("26: the last", 3, () -> lawn.ranked(3));
        Check.due("26: no such place", Check.NOTHING, () -> lawn.ranked(4));
        Check.due("26: place -1", Check.NOTHING, () -> lawn.ranked(-1));
        LawnGardeners late = facing(2);
        late.step(1);
        Check.due("26: the most first", 1, () -> late.ranked(0));
        Check.due("26: the least last", 0, () -> late.ranked(1));
    }

    private static void lines() {
        LawnGardeners lawn = Lawns.straight();
        Check.due("29: empty at first", Check.NO_PLACE, () -> lawn.character(0));
        lawn.colours(4);
        lawn.hoe(2, 3, 1);
        lawn.hoe(2, 5, 3);
        lawn.paint(2, 0, 1);
        lawn.paint(2, 8, 3);
        Check.due("27: length", 9, () -> lawn.rowLine(2));
        Check.due("27: the row 2", "100A0B003", () -> Check.line(lawn, 9));
        Check.due("27: no row 9", Check.NO_PLACE, () -> lawn.rowLine(9));
        Check.due("27: no row -1", Check.NO_PLACE, () -> lawn.rowLine(-1));
        lawn.step(1);
        Check.due("27: the line stays", "100A0B003", () -> Check.line(lawn, 9));
        lawn.rowLine(2);
        Check.due("27: the lowest hoe of two", "1001A1003", () -> Check.line(lawn, 9));
        Check.due("29: no index 9", Check.NO_PLACE, () -> lawn.character(9));
        Check.due("29: no index -1", Check.NO_PLACE, () -> lawn.character(-1));
        lawn.turn(1, 1);
        lawn.turn(2, 2);
        lawn.turn(3, 3);
        Check.due("28: length", 4, lawn::turnLine);
        Check.due("28: turns", "NRLU", () -> Check.line(lawn, 4));
        Check.due("29: the line is shorter", Check.NO_PLACE, () -> lawn.character(4));
        lawn.colours(3);
        Check.due("28: of the colours that there are", 3, lawn::turnLine);
        lawn.undo();
        lawn.save();
        lawn.restore();
        Check.due("29: the line is neither undone nor saved", Check.NO_PLACE, () -> lawn.character(3));
    }

    private static void append() {
        LawnGardeners lawn = new LawnGardeners();
        for (int sign = 1; sign <= 60; sign++) {
            int it = sign;
            Check.due("30: sign " + sign, sign, () -> lawn.append((char) (it * 1000)));
        }
        Check.due("30: full", Check.NOT_NOW, () -> lawn.append('b'));
        Check.due("30: account", 60, () -> lawn.account(9));
        Check.due("31: no such text", Check.NO_NUMBER, lawn::run);
        Check.due("31: empty afterwards", 0, () -> lawn.account(9));
        Check.due("30: again", 1, () -> lawn.append('b'));
        lawn.save();
        lawn.restore();
        Check.due("30: the input stays", 1, () -> lawn.account(9));
    }

    private static void run() {
        LawnGardeners lawn = new LawnGardeners();
        Check.due("31: headings", "4", () -> Check.run(lawn, "h00u;h20r;h40d;h60l"));
        for (int heading = 0; heading < 4; heading++) {
            int it = heading;
            Check.due("31: heading " + heading, heading, () -> lawn.hoeOf(it, 2));
            Check.due("31: row " + heading, 2 * heading, () -> lawn.hoeOf(it, 0));
        }
        Check.due("31: drops", "1", () -> Check.run(lawn, "x1"));
        Check.due("31: dropped", 4, () -> lawn.hoeOf(1, 0));
        Check.due("31: colours, turns", "5", () -> Check.run(lawn, "k4;t0=L;t1=N;t2=U;t3=R"));
        lawn.turnLine();
        Check.due("31: turns", "LNUR", () -> Check.line(lawn, 4));
        Check.due("31: paint and manner", "2", () -> Check.run(lawn, "p78=3;m2"));
        Check.due("31: painted", 3, () -> lawn.at(7, 8));
        Check.due("31: manner", 2, () -> lawn.account(2));
        Check.due("31: steps", "3", () -> Check.run(lawn, "s9;s01;s40"));
        Check.due("31: steps made", 50, () -> lawn.account(3));
        Check.due("31: a run forgets no steps", "2", () -> Check.run(lawn, "b;b"));
        Check.due("31: taken back", 28, () -> lawn.account(4));
        Check.due("31: its orders do", "3", () -> Check.run(lawn, "m0;s5;b"));
        Check.due("31: four left", 4, () -> lawn.account(4));
        Check.due("31: of those behind the order", 3, lawn::back);
        Check.due("31: one order", "1", () -> Check.run(lawn, "s40"));
        Check.due("31: most orders", "30", () -> Check.run(lawn, "b" + ";b".repeat(29)));
        Check.due("31: all taken back", 0, () -> lawn.account(4));
        Check.due("31: no error", -1, lawn::errorPosition);
        Check.due("31: a run is one change", 8, () -> lawn.account(10));
        Check.due("31: undone", 7, lawn::undo);
        Check.due("31: as ahead of it", 30, () -> lawn.account(4));
    }

    private static void runRefused() {
        LawnGardeners lawn = new LawnGardeners();
        Check.due("31: hoe on the cell", Check.REFUSED, () -> Check.run(lawn, "h50u;s1;h51u"));
        refusedFor("31: hoe on the cell", lawn, 2, 0);
        Check.due("31: no error", -1, lawn::errorPosition);
        Check.due("31: nothing of it is carried out", 0, () -> lawn.account(0));
        Check.due("31: nor painted", 81, () -> lawn.count(0));
        Check.due("31: no change", Check.NOT_NOW, lawn::undo);
        Check.due("31: empty afterwards", 0, () -> lawn.account(9));
        Check.due("31: no hoes", Check.REFUSED, () -> Check.run(lawn, "h00u;s7;x0;s1"));
        refusedFor("31: no hoes, but steps in the text", lawn, 4, 7);
        Check.due("31: no step left", Check.REFUSED, () -> Check.run(lawn, "h00u;s3;b;b;b;b"));
        refusedFor("31: no step left, of those in the text", lawn, 5, 3);
        Check.due("31: five hoes", Check.REFUSED, () -> Check.run(lawn, "h00u;h01u;h02u;h03u;h00u"));
        refusedFor("31: five hoes", lawn, 1, 4);
        String[] already = {"k3;k3", "t3=R;t3=R", "p88=1;p88=1", "m2;m2"};
        int[] details = {3, 1, 1, 2};
        for (int i = 0; i < already.length; i++) {
            String text = already[i];
            Check.due("31: " + text, Check.REFUSED, () -> Check.run(lawn, text));
            refusedFor("31: " + text, lawn, 3, details[i]);
        }
        String[] wrong = {"h90u", "h09u", "x0", "p90=0", "p09=0", "p00=2", "t4=R", "k1", "k5", "m3", "s0", "s41",
            "s99", "h00u;x1", "m1;m3", "h00u;x5;h00u"};
        for (String text : wrong) {
            Check.due("31: " + text, Check.NO_NUMBER, () -> Check.run(lawn, text));
            Check.due("32: " + text, -1, lawn::errorPosition);
            Check.due("31: nothing of " + text, 0, () -> lawn.account(0) + lawn.account(2));
        }
        refusedFor("33: the reason stays", lawn, 3, 2);
        Check.due("31: the first order decides", Check.REFUSED, () -> Check.run(lawn, "k2;x5"));
        refusedFor("31: the first order decides", lawn, 3, 2);
        Check.due("31: an error ahead of all", Check.NO_NUMBER, () -> Check.run(lawn, "m0;q"));
        Check.due("32: an error ahead of all", 3, lawn::errorPosition);
        refusedFor("31: an error ahead of all", lawn, 3, 2);
    }

    private static void errorPosition() {
        LawnGardeners lawn = new LawnGardeners();
        Check.due("32: not run yet", -1, lawn::errorPosition);
        String[] texts = {"", "h", "h4", "h44", "h44x", "h44U", "ha", "h4u", "x", "xa", "x00", "p", "p0", "p00",
            "p00=", "p00:0", "p00=a", "p00=00", "t", "t0", "t0=", "t0=n", "t0=R0", "k", "k22", "ku", "m", "m00", "s",
            "sx", "s123", "s12x", "s1;", "b;", "b;;", "bb", "b0", ";", " b", "b ", "q", "B", "0", "h00u;x", "b;b;z",
            "h00u h00u", "s10;".repeat(15), "b;".repeat(29) + "s1", "b;".repeat(29) + "h1", "u", "=", "N", "z"};
        int[] due = {0, 1, 2, 3, 3, 3, 1, 2, 1, 1, 2, 1, 2, 3,
            4, 3, 4, 5, 1, 2, 3, 3, 4, 1, 2, 1, 1, 2, 1,
            1, 3, 3, 3, 2, 2, 1, 1, 0, 0, 1, 0, 0, 0, 6, 4,
            4, 60, -1, 60, 0, 0, 0, 0};
        for (int i = 0; i < texts.length; i++) {
            String text = texts[i];
            Check.due("31: " + text, due[i] < 0 ? Check.REFUSED : Check.NO_NUMBER, () -> Check.run(lawn, text));
            Check.due("32: " + text, due[i], lawn::errorPosition);
        }
        Check.run(lawn, "hu");
        lawn.save();
        lawn.restore();
        Check.due("32: it stays", 1, lawn::errorPosition);
        Check.run(lawn, "h00u");
        Check.due("32: no error now", -1, lawn::errorPosition);
    }

    private static void refusal() {
        LawnGardeners lawn = new LawnGardeners();
        Check.due("33: nothing", Check.NOTHING, () -> lawn.refusal(true));
        Check.due("33: nothing at all", Check.NOTHING, () -> lawn.refusal(false));
        lawn.hoe(0, 0, 0);
        Check.answer(() -> lawn.colours(7));
        Check.due("33: wrong is not refused", Check.NOTHING, () -> lawn.refusal(false));
        Check.answer(lawn::back);
        Check.answer(() -> lawn.manner(0));
        refusedFor("33: the latest", lawn, 3, 0);
        lawn.save();
        Check.answer(() -> lawn.hoe(0, 0, 1));
        lawn.undo();
        lawn.restore();
        refusedFor("33: it stays", lawn, 2, 0);
    }

    private static void account() {
        LawnGardeners lawn = facing(0);
        lawn.colours(3);
        lawn.manner(1);
        lawn.step(3);
        lawn.back();
        lawn.append('b');
        int[] due = {2, 3, 1, 2, 2, 1, 2, 4, 2, 1, 8};
        for (int what = 0; what < due.length; what++) {
            int it = what;
            Check.due("34: " + what, due[what], () -> lawn.account(it));
        }
        Check.due("34: 11", Check.NO_NUMBER, () -> lawn.account(11));
        Check.due("34: -1", Check.NO_NUMBER, () -> lawn.account(-1));
        lawn.drop(1);
        Check.due("34: meetings of the hoes that there are", 2, () -> lawn.account(7));
    }

    private static void isWell() {
        LawnGardeners lawn = new LawnGardeners();
        Check.due("35: new", true, lawn::isWell);
        lawn.colours(4);
        lawn.paint(4, 4, 3);
        lawn.turn(2, 3);
        lawn.hoe(4, 4, 0);
        lawn.hoe(4, 5, 3);
        for (int i = 0; i < 40; i++) {
            lawn.step(1 + i);
            Check.due("35: behind steps", true, lawn::isWell);
        }
        lawn.colours(2);
        Check.due("35: fewer colours", true, lawn::isWell);
        LawnGardeners wait = facing(1);
        wait.step(1);
        Check.due("35: the inverse need not fit by the manner 1", true, wait::isWell);
        wait.manner(0);
        Check.due("35: nor behind it", true, wait::isWell);
    }

    private static void shares() {
        LawnGardeners lawn = Lawns.straight();
        Check.due("36: at first", 0.0, lawn::meanColour);
        Check.due("37: at first", 0f, lawn::paintedShare);
        lawn.colours(4);
        lawn.paint(0, 0, 1);
        lawn.paint(0, 1, 2);
        lawn.paint(0, 2, 3);
        Check.due("36: six", 6.0 / 81.0, lawn::meanColour);
        Check.due("37: by hoes alone", 0f, lawn::paintedShare);
        lawn.hoe(5, 0, 1);
        lawn.step(7);
        Check.due("36: thirteen", 13.0 / 81.0, lawn::meanColour);
        Check.due("37: seven", 7f / 81f, lawn::paintedShare);
        lawn.step(9);
        Check.due("37: each once", 9f / 81f, lawn::paintedShare);
    }

    private static void undo() {
        LawnGardeners lawn = new LawnGardeners();
        Check.due("38: nothing", Check.NOT_NOW, lawn::undo);
        lawn.hoe(4, 4, 0);
        lawn.hoe(5, 5, 0);
        lawn.drop(1);
        lawn.colours(3);
        lawn.turn(2, 3);
        lawn.paint(0, 0, 2);
        lawn.manner(2);
        lawn.step(5);
        lawn.back();
        Check.run(lawn, "s1;s1");
        Check.answer(() -> lawn.step(0));
        Check.answer(() -> lawn.manner(2));
        lawn.save();
        Check.due("38: eight at most", 8, () -> lawn.account(10));
        Check.due("38: run", 7, lawn::undo);
        Check.due("38: steps that can be taken back", 4, () -> lawn.account(4));
        Check.due("38: back", 6, lawn::undo);
        Check.due("38: that step can be taken back", 5, () -> lawn.account(4));
        Check.due("38: none was taken back", 0, () -> lawn.account(5));
        Check.due("38: step", 5, lawn::undo);
        Check.due("38: no step made", 0, () -> lawn.account(3));
        Check.due("38: where it was", 40, () -> lawn.willBe(0, 0));
        Check.due("38: manner", 4, lawn::undo);
        Check.due("38: the manner", 0, () -> lawn.account(2));
        Check.due("38: paint", 3, lawn::undo);
        Check.due("38: the colour", 0, () -> lawn.at(0, 0));
        Check.due("38: turn", 2, lawn::undo);
        lawn.turnLine();
        Check.due("38: the turn", "RLN", () -> Check.line(lawn, 3));
        Check.due("38: colours", 1, lawn::undo);
        Check.due("38: the colours", 2, () -> lawn.account(1));
        Check.due("38: drop", 0, lawn::undo);
        Check.due("38: two hoes", 2, () -> lawn.account(0));
        Check.due("38: no ninth", Check.NOT_NOW, lawn::undo);
        LawnGardeners again = new LawnGardeners();
        again.hoe(4, 4, 0);
        again.step(5);
        again.paint(0, 0, 1);
        again.undo();
        Check.due("38: the forgotten steps are back", 4, again::back);
        Check.due("38: and the earlier ones", 3, again::back);
    }

    private static void saveAndRestore() {
        LawnGardeners lawn = new LawnGardeners();
        Check.due("40: no snapshot", Check.NOT_NOW, lawn::restore);
        lawn.hoe(4, 4, 0);
        lawn.step(5);
        lawn.back();
        Check.due("39: hoes", 1, lawn::save);
        Check.due("39: no change", 3, () -> lawn.account(10));
        lawn.hoe(0, 0, 0);
        lawn.colours(4);
        lawn.turn(0, 3);
        lawn.manner(2);
        lawn.step(40);
        Check.due("40: hoes", 1, lawn::restore);
        int[] due = {1, 2, 0, 4, 4, 1, 4, 0, 4, 0, 0};
        for (int what = 0; what < due.length; what++) {
            int it = what;
            Check.due("40: account " + what, due[what], () -> lawn.account(it));
        }
        Check.due("40: changes are forgotten", Check.NOT_NOW, lawn::undo);
        Check.due("40: steps can be taken back", 3, lawn::back);
        Check.due("40: it stays", 1, lawn::restore);
        Check.due("40: as it was", 4, () -> lawn.account(4));
        lawn.drop(0);
        Check.due("39: in place of an earlier one", 0, lawn::save);
        lawn.hoe(0, 0, 0);
        Check.due("40: the later one", 0, lawn::restore);
    }
}
