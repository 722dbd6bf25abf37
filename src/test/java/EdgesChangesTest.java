import java.util.function.Supplier;

/** The promises 34 to 40 at their edges: accounts at their least and most, no change, eight changes, no snapshot. */
public final class EdgesChangesTest {
    private static final String[] LOOKS = {"lawn", "counts", "turns", "past", "snapshot"};

    /** What is as it was, though the changes are forgotten. */
    private static final String[] RESTORED = {"lawn", "turns", "past"};

    public static void main(String[] args) {
        accountOutOfRange();
        accountsAtTheLeast();
        accountsAtTheMost();
        accountsOfHoesAndColours();
        accountsOfStepsThatWereTakenBack();
        looksChangeNothing();
        isWellByEachManner();
        isWellOfFewerColours();
        meansOfTheLeastAndMost();
        sharesOfTheLeastAndMost();
        undoOfNothing();
        undoOfEachKind();
        undoOfTheLatestEight();
        undoOfChangesBehindAnUndo();
        callsThatAreNoChanges();
        restoreOfNothing();
        restoreOfEachKind();
        restoreForgetsChanges();
        saveInPlaceOfAnEarlierOne();
        saveOfAnEmptyLawn();
        saveOfAFullLawn();
        Check.eachPromise(34, 40);
        Check.end();
    }

    private static void accountOutOfRange() {
        for (int wrong : Lawns.outside(0, 10)) {
            Lawns.unchangedOnAll("34: what " + wrong, Check.NO_NUMBER, lawn -> lawn.account(wrong));
        }
    }

    private static void accountsAre(String what, LawnGardeners lawn, int... due) {
        for (int it = 0; it < due.length; it++) {
            int which = it;
            Check.due("34: " + what + ", account " + it, due[it], () -> lawn.account(which));
        }
    }

    private static void accountsAtTheLeast() {
        accountsAre("a new lawn", new LawnGardeners(), 0, 2, 0, 0, 0, 0, 0, 0, 0, 0, 0);
        LawnGardeners lawn = Lawns.made("h44u;h45l;s9;b;x0;x0");
        accountsAre("no hoes any more", lawn, 0, 2, 0, 8, 0, 1, lawn.account(6), 0, lawn.account(8), 0, 1);
        Check.due("34: painted cells stay", true, () -> lawn.account(6) > 0);
        LawnGardeners back = Lawns.made("h44u;s1;b");
        accountsAre("the only step taken back", back, 1, 2, 0, 0, 0, 1, 0, 0, 0, 0, 1);
    }

    private static void accountsAtTheMost() {
        LawnGardeners lawn = Lawns.fullInput();
        int[] most = {4, 4, -1, -1, 30, -1, -1, -1, 12, 60, 8};
        for (int what = 0; what < most.length; what++) {
            int it = what;
            if (most[what] >= 0) {
                Check.due("34: at the most, account " + what, most[what], () -> lawn.account(it));
            }
        }
        Check.answer(() -> lawn.hoe(0, 0, 0));
        Check.answer(() -> lawn.append('b'));
        lawn.step(1);
        for (int what = 0; what < most.length; what++) {
            int it = what;
            if (most[what] >= 0) {
                Check.due("34: no more than the most, account " + what, most[what], () -> lawn.account(it));
            }
        }
    }

    private static void accountsOfHoesAndColours() {
        LawnGardeners lawn = new LawnGardeners();
        for (int hoes = 1; hoes <= 4; hoes++) {
            lawn.hoe(hoes, hoes, 0);
            int it = hoes;
            Check.due("34: hoes", it, () -> lawn.account(0));
            Check.due("34: changes", it, () -> lawn.account(10));
        }
        for (int many : new int[] {4, 2, 3}) {
            lawn.colours(many);
            Check.due("34: colours", many, () -> lawn.account(1));
        }
        for (int manner : new int[] {2, 1, 0}) {
            lawn.manner(manner);
            Check.due("34: manner", manner, () -> lawn.account(2));
        }
        Check.due("34: changes at the most", 8, () -> lawn.account(10));
        LawnGardeners wait = Lawns.facing(1);
        wait.step(5);
        Check.due("34: meetings", 10, () -> wait.account(7));
        wait.drop(0);
        Check.due("34: meetings of the hoe that there is", 5, () -> wait.account(7));
        wait.hoe(0, 8, 1);
        Check.due("34: a new hoe has none", 5, () -> wait.account(7));
    }

    private static void accountsOfStepsThatWereTakenBack() {
        LawnGardeners lawn = Lawns.made("h44u;s40");
        for (int taken = 1; taken <= 30; taken++) {
            lawn.back();
            int it = taken;
            Check.due("34: steps made", 40 - it, () -> lawn.account(3));
            Check.due("34: steps that can be taken back", 30 - it, () -> lawn.account(4));
            Check.due("34: steps that were taken back", it, () -> lawn.account(5));
        }
        lawn.step(3);
        lawn.back();
        Check.due("34: steps made again", 12, () -> lawn.account(3));
        Check.due("34: one more was taken back", 31, () -> lawn.account(5));
        lawn.manner(1);
        Check.due("34: they are not forgotten", 31, () -> lawn.account(5));
    }

    private static void looksChangeNothing() {
        LawnGardeners like = Lawns.some();
        for (int what = 0; what <= 10; what++) {
            int it = what;
            Lawns.unchanged("34: changes nothing", like.account(what), Lawns::some, lawn -> lawn.account(it));
        }
        Lawns.unchanged("32: changes nothing", 2, Lawns::full, lawn -> lawn.errorPosition());
        Lawns.unchanged("35: changes nothing", true, Lawns::some, lawn -> lawn.isWell());
        Lawns.unchanged("36: changes nothing", like.meanColour(), Lawns::some, lawn -> lawn.meanColour());
        Lawns.unchanged("37: changes nothing", like.paintedShare(), Lawns::some, lawn -> lawn.paintedShare());
        Lawns.unchanged("39: changes nothing but the snapshot", 2, Lawns::some, lawn -> lawn.save(), "snapshot");
    }

    private static void isWellByEachManner() {
        Check.due("35: an empty lawn", true, () -> new LawnGardeners().isWell());
        for (int manner = 0; manner < 3; manner++) {
            LawnGardeners lawn = Lawns.facing(manner);
            Check.due("35: no step by the manner " + manner, true, lawn::isWell);
            lawn.step(1);
            Check.due("13: by the manner " + manner, manner == 0, lawn::isInverse);
            Check.due("35: a meeting by the manner " + manner, true, lawn::isWell);
            lawn.step(40);
            Check.due("35: forty steps by the manner " + manner, true, lawn::isWell);
            lawn.back();
            Check.due("35: a step back by the manner " + manner, true, lawn::isWell);
        }
    }

    private static void isWellOfFewerColours() {
        LawnGardeners lawn = Lawns.made("k4;t2=U;t3=L;h44u;h45l;s40;s40");
        Check.due("35: four colours", true, lawn::isWell);
        lawn.colours(3);
        Check.due("35: three colours", true, lawn::isWell);
        Check.due("16: none of the colour 3", 0, () -> lawn.count(3));
        lawn.colours(2);
        Check.due("35: two colours", true, lawn::isWell);
        Check.due("16: none of the colour 2", 0, () -> lawn.count(2));
        Check.due("1: a step by a colour that there is", 2, () -> lawn.step(1));
        Check.due("35: behind a step", true, lawn::isWell);
    }

    private static void meansOfTheLeastAndMost() {
        LawnGardeners lawn = new LawnGardeners();
        Check.due("36: all are 0", 0.0, lawn::meanColour);
        lawn.paint(8, 8, 1);
        Check.due("36: one is 1", 1.0 / 81.0, lawn::meanColour);
        lawn.colours(4);
        for (int cell = 0; cell < 81; cell++) {
            lawn.paint(cell / 9, cell % 9, 3);
            int sum = 3 * (cell + 1) + (cell < 80 ? 1 : 0);
            Check.due("36: the sum " + sum, sum / 81.0, lawn::meanColour);
        }
        Check.due("36: all are 3", 3.0, lawn::meanColour);
    }

    private static void sharesOfTheLeastAndMost() {
        LawnGardeners lawn = Lawns.straight();
        Check.due("37: none", 0f, lawn::paintedShare);
        for (int row = 0; row < 9; row++) {
            lawn.hoe(row, 0, 1);
            for (int column = 0; column < 9; column++) {
                lawn.step(1);
                int cells = 9 * row + column + 1;
                Check.due("37: " + cells + " cells", cells / 81f, lawn::paintedShare);
                Check.due("34: " + cells + " cells", cells, () -> lawn.account(6));
            }
            lawn.step(2);
            Check.due("37: none more", (9 * row + 9) / 81f, lawn::paintedShare);
            lawn.drop(0);
        }
        Check.due("37: all", 1f, lawn::paintedShare);
        Check.due("34: all", 81, () -> lawn.account(6));
    }

    private static void undoOfNothing() {
        Lawns.unchanged("38: no change", Check.NOT_NOW, LawnGardeners::new, lawn -> lawn.undo());
        Supplier<LawnGardeners> undone = () -> {
            LawnGardeners lawn = Lawns.some();
            for (int round = 0; round < 8 && lawn.account(10) > 0; round++) {
                lawn.undo();
            }
            return lawn;
        };
        Lawns.unchanged("38: all undone", Check.NOT_NOW, undone, lawn -> lawn.undo());
        Supplier<LawnGardeners> restored = () -> {
            LawnGardeners lawn = Lawns.full();
            lawn.restore();
            return lawn;
        };
        Lawns.unchanged("38: forgotten by restore", Check.NOT_NOW, restored, lawn -> lawn.undo());
    }

    private static LawnGardeners two() {
        return Lawns.made("k3;t2=U;h44u;h46d;h64l;s9;b;b");
    }

    private static void change(LawnGardeners lawn, int kind) {
        switch (kind) {
            case 0: lawn.hoe(8, 8, 2); break;
            case 1: lawn.drop(1); break;
            case 2: lawn.colours(2); break;
            case 3: lawn.turn(1, 0); break;
            case 4: lawn.paint(8, 8, 2); break;
            case 5: lawn.manner(2); break;
            case 6: lawn.step(40); break;
            case 7: lawn.back(); break;
            default: Check.run(lawn, "x0;k4;t3=R;p08=3;m1;s20;b;h80u");
        }
    }

    private static void undoOfEachKind() {
        for (int kind = 0; kind < 9; kind++) {
            for (String look : LOOKS) {
                LawnGardeners lawn = two();
                change(lawn, kind);
                Check.due("34: a change of kind " + kind, 2, () -> lawn.account(10));
                Check.due("38: one less", 1, lawn::undo);
                String due = Lawns.look(look, two());
                Check.due("38: undone, kind " + kind + ", " + look, due, () -> Lawns.look(look, lawn));
            }
        }
    }

    private static void undoOfTheLatestEight() {
        LawnGardeners lawn = new LawnGardeners();
        for (int made = 1; made <= 20; made++) {
            lawn.paint(made / 9, made % 9, 1);
            int it = Math.min(8, made);
            Check.due("34: changes that can be undone", it, () -> lawn.account(10));
        }
        for (int left = 7; left >= 0; left--) {
            int it = left;
            int cells = 12 + left;
            Check.due("38: left", it, lawn::undo);
            Check.due("38: cells painted", cells, () -> lawn.count(1));
        }
        Check.due("38: the ninth", Check.NOT_NOW, lawn::undo);
        Check.due("38: twelve changes stay", 12, () -> lawn.count(1));
    }

    private static void undoOfChangesBehindAnUndo() {
        LawnGardeners lawn = new LawnGardeners();
        for (int made = 0; made < 8; made++) {
            lawn.paint(0, made, 1);
        }
        lawn.undo();
        lawn.undo();
        Check.due("38: an undo is no change", 6, () -> lawn.account(10));
        lawn.paint(8, 8, 1);
        Check.due("34: one more change", 7, () -> lawn.account(10));
        lawn.paint(8, 7, 1);
        lawn.paint(8, 6, 1);
        Check.due("34: eight again", 8, () -> lawn.account(10));
        for (int left = 7; left >= 0; left--) {
            int it = left;
            Check.due("38: left of those", it, lawn::undo);
        }
        Check.due("38: the first stays", 1, () -> lawn.count(1));
        Check.due("38: that is the first", 1, () -> lawn.at(0, 0));
    }

    private static void callsThatAreNoChanges() {
        LawnGardeners lawn = Lawns.made("h44u;s5");
        Check.answer(() -> lawn.hoe(9, 0, 0));
        Check.answer(() -> lawn.drop(1));
        Check.answer(() -> lawn.colours(2));
        Check.answer(() -> lawn.turn(0, 1));
        Check.answer(() -> lawn.paint(8, 8, 0));
        Check.answer(() -> lawn.manner(0));
        Check.answer(() -> lawn.step(0));
        Check.run(lawn, "m1;m1");
        Check.run(lawn, "m1;q");
        lawn.append('b');
        lawn.rowLine(0);
        lawn.save();
        Check.due("38: calls that throw, looks and save are no changes", 1, () -> lawn.account(10));
        Check.due("38: the text", 0, lawn::undo);
        Check.answer(lawn::back);
        Check.due("38: a step that cannot be taken back is none", 0, () -> lawn.account(10));
    }

    private static void restoreOfNothing() {
        Lawns.unchanged("40: no snapshot", Check.NOT_NOW, LawnGardeners::new, lawn -> lawn.restore());
        Lawns.unchanged("40: no snapshot, but changes", Check.NOT_NOW, EdgesChangesTest::two, lawn -> lawn.restore());
        Supplier<LawnGardeners> undone = () -> {
            LawnGardeners lawn = two();
            lawn.undo();
            return lawn;
        };
        Lawns.unchanged("40: nor by undo", Check.NOT_NOW, undone, lawn -> lawn.restore());
    }

    private static void restoreOfEachKind() {
        for (int kind = 0; kind < 9; kind++) {
            for (String look : RESTORED) {
                LawnGardeners lawn = two();
                Check.due("39: hoes", 3, lawn::save);
                change(lawn, kind);
                Check.due("40: hoes behind kind " + kind, 3, lawn::restore);
                Check.due("34: steps taken back, as it was", 2, () -> lawn.account(5));
                String due = Lawns.look(look, two());
                Check.due("40: restored, kind " + kind + ", " + look, due, () -> Lawns.look(look, lawn));
            }
        }
    }

    private static void restoreForgetsChanges() {
        LawnGardeners lawn = Lawns.full();
        Check.due("40: hoes", 4, lawn::restore);
        Check.due("40: no change can be undone", 0, () -> lawn.account(10));
        Check.due("40: restore cannot be undone", Check.NOT_NOW, lawn::undo);
        lawn.drop(0);
        Check.due("38: later changes can", 0, lawn::undo);
        Check.due("38: back to the snapshot", 4, () -> lawn.account(0));
        for (int i = 0; i < 3; i++) {
            lawn.drop(0);
            lawn.step(3);
            Check.due("40: it stays", 4, lawn::restore);
            Check.due("40: with its steps", 20, () -> lawn.account(4));
            Check.due("40: with the steps made", 20, () -> lawn.account(3));
        }
        lawn.back();
        Check.due("40: again, behind a step back", 4, lawn::restore);
        Check.due("40: no step was taken back", 0, () -> lawn.account(5));
    }

    private static void saveInPlaceOfAnEarlierOne() {
        LawnGardeners lawn = new LawnGardeners();
        for (int hoes = 0; hoes <= 4; hoes++) {
            int it = hoes;
            Check.due("39: hoes", it, lawn::save);
            Check.due("40: hoes of the latest snapshot", it, lawn::restore);
            if (hoes < 4) {
                lawn.hoe(hoes, 0, 0);
            }
        }
        lawn.save();
        for (int hoes = 3; hoes >= 0; hoes--) {
            lawn.drop(0);
        }
        Check.due("40: the snapshot of four", 4, lawn::restore);
        LawnGardeners undone = Lawns.made("h44u");
        undone.save();
        undone.undo();
        Check.due("40: behind the undo of all changes", 1, undone::restore);
    }

    private static void saveOfAnEmptyLawn() {
        LawnGardeners lawn = new LawnGardeners();
        Check.due("39: no hoes", 0, lawn::save);
        change(lawn, 8);
        lawn.hoe(4, 4, 0);
        lawn.step(40);
        lawn.colours(4);
        Check.due("40: no hoes", 0, lawn::restore);
        for (String look : new String[] {"lawn", "counts"}) {
            String due = Lawns.look(look, new LawnGardeners());
            Check.due("40: as a new lawn, " + look, due, () -> Lawns.look(look, lawn));
        }
        Check.due("40: no trail", Check.NOTHING, () -> lawn.trail(0));
        Check.due("40: no step", Check.NOTHING, lawn::isInverse);
    }

    private static void saveOfAFullLawn() {
        for (String look : RESTORED) {
            String due = Lawns.look(look, Lawns.full());
            LawnGardeners lawn = Lawns.full();
            lawn.save();
            lawn.restore();
            Check.due("40: full, " + look, due, () -> Lawns.look(look, lawn));
            LawnGardeners emptied = Lawns.full();
            emptied.save();
            for (int hoe = 0; hoe < 4; hoe++) {
                emptied.drop(0);
            }
            emptied.colours(2);
            emptied.manner(2);
            emptied.restore();
            Check.due("40: full again, " + look, due, () -> Lawns.look(look, emptied));
        }
        for (String look : new String[] {"line", "input", "error", "reason"}) {
            LawnGardeners lawn = Lawns.fullInput();
            lawn.restore();
            if (!look.equals("input")) {
                Check.due("40: stays, " + look, Lawns.look(look, Lawns.fullInput()), () -> Lawns.look(look, lawn));
            } else {
                Check.due("40: the input stays", 60, () -> lawn.account(9));
                Check.due("40: all of it", "20", () -> Check.answer(lawn::run));
            }
        }
    }
}
