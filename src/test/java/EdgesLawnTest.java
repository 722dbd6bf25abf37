import java.util.function.Supplier;

/** The promises 1 to 10 at their edges: too small, too large, empty, full, over the lawn's ends, refused. */
public final class EdgesLawnTest {
    private static final int[] QUARTERS = {0, 1, 3, 2};

    public static void main(String[] args) {
        newLawnIsEmpty();
        newLawnHasTwoColours();
        lawnsAreApart();
        hoeOutOfRange();
        hoeOnEachCorner();
        hoeRefused();
        hoeOfSeveralIsTheLowest();
        hoeOnACellThatWasLeft();
        dropOutOfRange();
        dropEach();
        dropOfSeveralOnACell();
        dropLeavesTheLawn();
        coloursOutOfRange();
        coloursSoAlready();
        coloursOfAFullLawn();
        coloursKeepTurns();
        turnOutOfRange();
        turnSoAlready();
        turnOfEachHeading();
        paintOutOfRange();
        paintSoAlready();
        paintOnEachCorner();
        paintIsNoPaintingByHoes();
        mannerOutOfRange();
        mannerSoAlready();
        cellsOutOfRange();
        atTellsEachColour();
        onTellsEachNumber();
        hoeOfOutOfRange();
        hoeOfANewOne();
        Check.eachPromise(1, 10);
        Check.end();
    }

    private static void newLawnIsEmpty() {
        LawnGardeners lawn = new LawnGardeners();
        for (int cell = 0; cell < 81; cell++) {
            int it = cell;
            Check.due("1: colour of " + cell, 0, () -> lawn.at(it / 9, it % 9));
            Check.due("1: paintings of " + cell, 0, () -> lawn.painted(it / 9, it % 9));
            Check.due("1: hoes on " + cell, 0, () -> lawn.on(it / 9, it % 9));
        }
        Check.due("1: no hoe", Check.NO_PLACE, () -> lawn.hoeOf(0, 0));
        Check.due("1: none to be dropped", Check.NO_PLACE, () -> lawn.drop(0));
        Check.due("1: no trail", Check.NOTHING, () -> lawn.trail(0));
        Check.due("1: no line", Check.NO_PLACE, () -> lawn.character(0));
        Check.due("1: no text was run", -1, lawn::errorPosition);
        Check.due("1: no reason", Check.NOTHING, () -> lawn.refusal(false));
        Check.due("1: no detail", Check.NOTHING, () -> lawn.refusal(true));
        Check.due("1: no change", Check.NOT_NOW, lawn::undo);
        Check.due("1: no snapshot", Check.NOT_NOW, lawn::restore);
        Check.due("1: no step", Check.REFUSED, lawn::back);
    }

    private static void newLawnHasTwoColours() {
        LawnGardeners lawn = new LawnGardeners();
        Check.due("1: no colour 2", Check.NO_NUMBER, () -> lawn.paint(0, 0, 2));
        Check.due("1: the colour 1", 0, () -> lawn.paint(0, 0, 1));
        int[] turns = {1, 2, 0, 0};
        for (int colour = 0; colour < 4; colour++) {
            int it = colour;
            Check.due("1: turn of " + colour, Check.REFUSED, () -> lawn.turn(it, turns[it]));
        }
        LawnGardeners through = Lawns.straight();
        through.hoe(4, 4, 1);
        through.hoe(4, 5, 3);
        Check.due("1: hoes go through one another", 2, () -> through.step(1));
        Check.due("1: each is where the other was", 5, () -> through.hoeOf(0, 1));
        Check.due("1: and the other, too", 4, () -> through.hoeOf(1, 1));
    }

    private static void lawnsAreApart() {
        LawnGardeners one = new LawnGardeners();
        LawnGardeners other = new LawnGardeners();
        one.hoe(4, 4, 0);
        one.step(5);
        one.turn(3, 3);
        one.save();
        Check.answer(() -> one.turn(3, 3));
        Check.due("1: no hoe in the other lawn", 0, () -> other.account(0));
        Check.due("1: no colour in the other lawn", 81, () -> other.count(0));
        Check.due("1: no turn in the other lawn", 0, () -> other.turn(3, 1));
        Check.due("1: no snapshot in the other lawn", Check.NOT_NOW, other::restore);
        Check.due("1: no reason in the other lawn", Check.NOTHING, () -> other.refusal(false));
    }

    private static void hoeOutOfRange() {
        for (int wrong : Lawns.outside(0, 8)) {
            Lawns.unchangedOnAll("2: row " + wrong, Check.NO_PLACE, lawn -> lawn.hoe(wrong, 0, 0));
            Lawns.unchangedOnAll("2: column " + wrong, Check.NO_PLACE, lawn -> lawn.hoe(0, wrong, 3));
            Lawns.unchangedOnAll("2: row " + wrong + " ahead of the heading", Check.NO_PLACE,
                lawn -> lawn.hoe(wrong, 8, 4));
            Lawns.unchangedOnAll("2: column " + wrong + " ahead of the heading", Check.NO_PLACE,
                lawn -> lawn.hoe(8, wrong, -1));
        }
        for (int wrong : Lawns.outside(0, 3)) {
            Lawns.unchangedOnAll("2: heading " + wrong, Check.NO_NUMBER, lawn -> lawn.hoe(4, 4, wrong));
        }
    }

    private static void hoeOnEachCorner() {
        LawnGardeners lawn = new LawnGardeners();
        int[][] corners = {{0, 0}, {0, 8}, {8, 0}, {8, 8}};
        for (int i = 0; i < 4; i++) {
            int it = i;
            Check.due("2: number of hoe " + i, i, () -> lawn.hoe(corners[it][0], corners[it][1], it));
            Check.due("2: hoes with hoe " + i, i + 1, () -> lawn.account(0));
        }
        for (int i = 0; i < 4; i++) {
            int it = i;
            Check.due("2: row of hoe " + i, corners[i][0], () -> lawn.hoeOf(it, 0));
            Check.due("2: column of hoe " + i, corners[i][1], () -> lawn.hoeOf(it, 1));
            Check.due("2: heading of hoe " + i, i, () -> lawn.hoeOf(it, 2));
        }
    }

    private static void hoeRefused() {
        Supplier<LawnGardeners> four = () -> Lawns.made("h00u;h08r;h80d;h88l");
        for (Supplier<LawnGardeners> maker : java.util.List.of(four, Lawns::full, Lawns::fullInput)) {
            LawnGardeners like = maker.get();
            int cell = like.willBe(2, 0);
            Lawns.refused("2: a fifth hoe", 1, 4, maker, lawn -> lawn.hoe(4, 0, 0));
            Lawns.refused("2: a fifth hoe on another's cell", 1, 4, maker, lawn -> lawn.hoe(cell / 9, cell % 9, 0));
            Lawns.unchanged("2: a fifth hoe without a heading", Check.NO_NUMBER, maker, lawn -> lawn.hoe(0, 0, 4));
        }
        Lawns.refused("2: the only hoe's cell", 2, 0, () -> Lawns.made("h88l"), lawn -> lawn.hoe(8, 8, 0));
        Lawns.refused("2: the latest hoe's cell", 2, 2, () -> Lawns.made("h00u;h01u;h02u"), lawn -> lawn.hoe(0, 2, 0));
        Supplier<LawnGardeners> again = () -> {
            LawnGardeners lawn = Lawns.made("h00u;h01u;h02u;h03u;s3");
            lawn.drop(0);
            return lawn;
        };
        Check.due("2: a fourth hoe once more", 3, () -> again.get().hoe(8, 8, 0));
        Lawns.refused("2: the cell of a hoe with a lower number now", 2, 2, again, lawn -> {
            int cell = lawn.willBe(2, 0);
            return lawn.hoe(cell / 9, cell % 9, 0);
        });
    }

    private static LawnGardeners pairOnTheCell40() {
        return Lawns.made("t0=N;t1=N;h00u;h43r;h45l;s1");
    }

    private static void hoeOfSeveralIsTheLowest() {
        Check.due("2: two hoes", 2, () -> pairOnTheCell40().on(4, 4));
        Lawns.refused("2: the lowest of two", 2, 1, EdgesLawnTest::pairOnTheCell40, lawn -> lawn.hoe(4, 4, 0));
        Supplier<LawnGardeners> one = () -> {
            LawnGardeners lawn = pairOnTheCell40();
            lawn.drop(0);
            return lawn;
        };
        Lawns.refused("2: the lowest of two with numbers 1 less", 2, 0, one, lawn -> lawn.hoe(4, 4, 3));
    }

    private static void hoeOnACellThatWasLeft() {
        LawnGardeners lawn = pairOnTheCell40();
        Check.due("2: a cell that was left", 3, () -> lawn.hoe(4, 3, 2));
        Check.due("2: it has not gone on", 0, () -> lawn.hoeOf(3, 3));
        Check.due("2: it has not met", 0, () -> lawn.hoeOf(3, 4));
        Check.due("2: steps are forgotten", 0, () -> lawn.account(4));
        Check.due("2: steps made are not", 1, () -> lawn.account(3));
    }

    private static void dropOutOfRange() {
        for (int wrong : Lawns.outside(0, 3)) {
            Lawns.unchangedOnAll("3: hoe " + wrong, Check.NO_PLACE, lawn -> lawn.drop(wrong));
        }
        Lawns.unchanged("3: the first of none", Check.NO_PLACE, LawnGardeners::new, lawn -> lawn.drop(0));
        Lawns.unchanged("3: the third of two", Check.NO_PLACE, Lawns::some, lawn -> lawn.drop(2));
        Lawns.unchanged("3: the second of one", Check.NO_PLACE, () -> Lawns.made("h00u"), lawn -> lawn.drop(1));
    }

    private static void dropEach() {
        for (int dropped = 0; dropped < 4; dropped++) {
            int it = dropped;
            LawnGardeners before = Lawns.full();
            LawnGardeners lawn = Lawns.full();
            Check.due("3: hoes without " + dropped, 3, () -> lawn.drop(it));
            for (int hoe = 0; hoe < 3; hoe++) {
                for (int what = 0; what < 5; what++) {
                    int now = hoe;
                    int which = what;
                    int was = before.hoeOf(hoe < dropped ? hoe : hoe + 1, what);
                    Check.due("3: number " + what + " of hoe " + hoe + " without " + dropped, was,
                        () -> lawn.hoeOf(now, which));
                }
            }
            Check.due("3: the last number is free", Check.NO_PLACE, () -> lawn.hoeOf(3, 0));
        }
        LawnGardeners lawn = Lawns.full();
        for (int left = 3; left >= 0; left--) {
            int it = left;
            Check.due("3: hoes left", left, () -> lawn.drop(it));
        }
        Check.due("3: none left", Check.NO_PLACE, () -> lawn.drop(0));
        Check.due("3: no meetings of hoes that there are", 0, () -> lawn.account(7));
    }

    private static void dropOfSeveralOnACell() {
        for (int dropped = 1; dropped <= 2; dropped++) {
            int it = dropped;
            LawnGardeners lawn = pairOnTheCell40();
            lawn.drop(it);
            Check.due("3: the other stays on the cell", 1, () -> lawn.on(4, 4));
            Check.due("3: with its heading", dropped == 1 ? 3 : 1, () -> lawn.hoeOf(1, 2));
        }
    }

    private static void dropLeavesTheLawn() {
        LawnGardeners lawn = Lawns.straight();
        lawn.hoe(0, 0, 1);
        lawn.step(20);
        lawn.drop(0);
        Check.due("3: paintings stay", 3, () -> lawn.painted(0, 1));
        Check.due("3: colours stay", 1, () -> lawn.at(0, 1));
        Check.due("3: the trail stays", 9, () -> lawn.account(8));
        Check.due("3: steps made stay", 20, () -> lawn.account(3));
        Check.due("3: steps are forgotten", 0, () -> lawn.account(4));
        Check.due("3: no hoe on its cell", 0, () -> lawn.on(0, 2));
    }

    private static void coloursOutOfRange() {
        for (int wrong : Lawns.outside(2, 4)) {
            Lawns.unchangedOnAll("4: colours " + wrong, Check.NO_NUMBER, lawn -> lawn.colours(wrong));
        }
        Lawns.unchangedOnAll("4: no colours", Check.NO_NUMBER, lawn -> lawn.colours(0));
    }

    private static void coloursSoAlready() {
        Lawns.refused("4: two already", 3, 2, LawnGardeners::new, lawn -> lawn.colours(2));
        Lawns.refused("4: three already", 3, 3, () -> Lawns.made("k3;h00u;s5"), lawn -> lawn.colours(3));
        Lawns.refused("4: four already", 3, 4, Lawns::full, lawn -> lawn.colours(4));
    }

    private static void coloursOfAFullLawn() {
        for (int colour = 1; colour < 4; colour++) {
            for (int many = 2; many < 4; many++) {
                int it = many;
                LawnGardeners lawn = new LawnGardeners();
                lawn.colours(4);
                for (int cell = 0; cell < 81; cell++) {
                    lawn.paint(cell / 9, cell % 9, colour);
                }
                int cleared = colour < many ? 0 : 81;
                Check.due("4: cells of " + colour + " with " + many, cleared, () -> lawn.colours(it));
                Check.due("4: cells of 0", cleared, () -> lawn.count(0));
                Check.due("4: four again clear none", 0, () -> lawn.colours(4));
                Check.due("4: and they stay 0", cleared, () -> lawn.count(0));
            }
        }
    }

    private static void coloursKeepTurns() {
        LawnGardeners lawn = Lawns.made("k4;t2=U;t3=L;k2");
        Check.due("4: two turns", 2, lawn::turnLine);
        lawn.colours(4);
        lawn.turnLine();
        Check.due("4: turns of colours that were not there", "RLUL", () -> Check.line(lawn, 4));
    }

    private static void turnOutOfRange() {
        for (int wrong : Lawns.outside(0, 3)) {
            Lawns.unchangedOnAll("5: colour " + wrong, Check.NO_NUMBER, lawn -> lawn.turn(wrong, 0));
            Lawns.unchangedOnAll("5: turn " + wrong, Check.NO_NUMBER, lawn -> lawn.turn(0, wrong));
            Lawns.unchangedOnAll("5: both " + wrong, Check.NO_NUMBER, lawn -> lawn.turn(wrong, wrong));
        }
    }

    private static void turnSoAlready() {
        int[] turns = {1, 2, 0, 0};
        for (int colour = 0; colour < 4; colour++) {
            int it = colour;
            Lawns.refused("5: at first, of " + colour, 3, turns[colour], LawnGardeners::new,
                lawn -> lawn.turn(it, turns[it]));
            for (int turn = 0; turn < 4; turn++) {
                int to = turn;
                Supplier<LawnGardeners> maker = () -> {
                    LawnGardeners lawn = new LawnGardeners();
                    Check.due("5: set to " + to, to == turns[it] ? Check.REFUSED : turns[it], () -> lawn.turn(it, to));
                    return lawn;
                };
                Lawns.refused("5: of " + colour + " to " + turn, 3, turn, maker, lawn -> lawn.turn(it, to));
            }
        }
    }

    private static void turnOfEachHeading() {
        for (int turn = 0; turn < 4; turn++) {
            for (int heading = 0; heading < 4; heading++) {
                LawnGardeners lawn = new LawnGardeners();
                if (turn != 1) {
                    lawn.turn(0, turn);
                }
                lawn.hoe(4, 4, heading);
                lawn.step(1);
                int due = (heading + QUARTERS[turn]) % 4;
                Check.due("5: turn " + turn + " of the heading " + heading, due, () -> lawn.hoeOf(0, 2));
                Check.due("5: and its row", due == 0 ? 3 : due == 2 ? 5 : 4, () -> lawn.hoeOf(0, 0));
                Check.due("5: and its column", due == 3 ? 3 : due == 1 ? 5 : 4, () -> lawn.hoeOf(0, 1));
                Check.due("13: the inverse turns to the other side", true, lawn::isInverse);
            }
        }
    }

    private static void paintOutOfRange() {
        for (int wrong : Lawns.outside(0, 8)) {
            Lawns.unchangedOnAll("6: row " + wrong, Check.NO_PLACE, lawn -> lawn.paint(wrong, 0, 1));
            Lawns.unchangedOnAll("6: column " + wrong, Check.NO_PLACE, lawn -> lawn.paint(0, wrong, 1));
            Lawns.unchangedOnAll("6: row " + wrong + " ahead of the colour", Check.NO_PLACE,
                lawn -> lawn.paint(wrong, 0, 9));
        }
        for (int many = 2; many <= 4; many++) {
            int it = many;
            Supplier<LawnGardeners> maker = () -> {
                LawnGardeners lawn = Lawns.made("h44u;s9");
                if (it > 2) {
                    lawn.colours(it);
                }
                return lawn;
            };
            for (int wrong : Lawns.outside(0, many - 1)) {
                Lawns.unchanged("6: colour " + wrong + " of " + many, Check.NO_NUMBER, maker,
                    lawn -> lawn.paint(8, 8, wrong));
            }
            Check.due("6: the last colour of " + many, 0, () -> maker.get().paint(8, 8, it - 1));
        }
    }

    private static void paintSoAlready() {
        Lawns.refused("6: the colour 0", 3, 0, LawnGardeners::new, lawn -> lawn.paint(8, 8, 0));
        for (int colour = 1; colour < 4; colour++) {
            int it = colour;
            Supplier<LawnGardeners> maker = () -> Lawns.made("k4;p08=" + it + ";h00u;s5");
            Lawns.refused("6: the colour " + colour, 3, colour, maker, lawn -> lawn.paint(0, 8, it));
        }
        Lawns.refused("6: as a hoe painted it", 3, 1, () -> Lawns.made("h44u;s1"), lawn -> lawn.paint(4, 4, 1));
    }

    private static void paintOnEachCorner() {
        int[][] corners = {{0, 0}, {0, 8}, {8, 0}, {8, 8}};
        for (int[] corner : corners) {
            LawnGardeners lawn = new LawnGardeners();
            Check.due("6: colour before", 0, () -> lawn.paint(corner[0], corner[1], 1));
            Check.due("6: that cell", 1, () -> lawn.at(corner[0], corner[1]));
            Check.due("6: that cell alone", 1, () -> lawn.count(1));
            Check.due("6: colour before that", 1, () -> lawn.paint(corner[0], corner[1], 0));
        }
    }

    private static void paintIsNoPaintingByHoes() {
        LawnGardeners lawn = Lawns.made("h44u");
        lawn.paint(4, 4, 1);
        Check.due("6: below a hoe", 0, () -> lawn.painted(4, 4));
        Check.due("6: no trail", Check.NOTHING, () -> lawn.trail(0));
        Check.due("6: no share", 0f, lawn::paintedShare);
        Check.due("6: the hoe stays", 1, () -> lawn.on(4, 4));
        lawn.step(1);
        Check.due("6: the hoe turns by it", 3, () -> lawn.hoeOf(0, 2));
    }

    private static void mannerOutOfRange() {
        for (int wrong : Lawns.outside(0, 2)) {
            Lawns.unchangedOnAll("7: manner " + wrong, Check.NO_NUMBER, lawn -> lawn.manner(wrong));
        }
    }

    private static void mannerSoAlready() {
        Lawns.refused("7: the manner 0", 3, 0, LawnGardeners::new, lawn -> lawn.manner(0));
        Lawns.refused("7: the manner 1", 3, 1, Lawns::full, lawn -> lawn.manner(1));
        Lawns.refused("7: the manner 2", 3, 2, () -> Lawns.made("m2;h00u;s5"), lawn -> lawn.manner(2));
        LawnGardeners lawn = new LawnGardeners();
        int[] manners = {1, 2, 0, 2, 1, 0};
        int before = 0;
        for (int manner : manners) {
            int was = before;
            Check.due("7: ahead of " + manner, was, () -> lawn.manner(manner));
            Check.due("7: now " + manner, manner, () -> lawn.account(2));
            before = manner;
        }
    }

    private static void cellsOutOfRange() {
        for (int wrong : Lawns.outside(0, 8)) {
            Lawns.unchangedOnAll("8: row " + wrong, Check.NO_PLACE, lawn -> lawn.at(wrong, 0));
            Lawns.unchangedOnAll("8: column " + wrong, Check.NO_PLACE, lawn -> lawn.at(8, wrong));
            Lawns.unchangedOnAll("10: row " + wrong, Check.NO_PLACE, lawn -> lawn.on(wrong, 8));
            Lawns.unchangedOnAll("10: column " + wrong, Check.NO_PLACE, lawn -> lawn.on(0, wrong));
        }
    }

    private static void atTellsEachColour() {
        LawnGardeners lawn = Lawns.made("k4;p00=1;p08=2;p80=3");
        int[] due = {1, 2, 3, 0};
        for (int corner = 0; corner < 4; corner++) {
            int it = corner;
            Check.due("8: corner " + corner, due[corner], () -> lawn.at(it / 2 * 8, it % 2 * 8));
        }
        Lawns.unchanged("8: a look changes nothing", 0, Lawns::some, like -> like.at(8, 8));
    }

    /** Hoes come to the corner from all sides, two of them over the lawn's ends. */
    private static void onTellsEachNumber() {
        String[] hoes = {"h80d", "h01l", "h10u", "h08r"};
        String text = "t0=N;t1=N";
        for (int many = 1; many <= 4; many++) {
            text = text + ";" + hoes[many - 1];
            LawnGardeners lawn = Lawns.made(text);
            Check.due("10: none on the corner", 0, () -> lawn.on(0, 0));
            lawn.step(1);
            Check.due("10: on the corner", many, () -> lawn.on(0, 0));
            for (int[] cell : new int[][] {{8, 0}, {0, 1}, {1, 0}, {0, 8}, {8, 8}, {1, 1}}) {
                Check.due("10: beside it", 0, () -> lawn.on(cell[0], cell[1]));
            }
            lawn.step(1);
            Check.due("10: gone", 0, () -> lawn.on(0, 0));
        }
        Lawns.unchanged("10: a look changes nothing", 0, Lawns::some, like -> like.on(8, 8));
    }

    private static void hoeOfOutOfRange() {
        for (int wrong : Lawns.outside(0, 3)) {
            Lawns.unchangedOnAll("9: hoe " + wrong, Check.NO_PLACE, lawn -> lawn.hoeOf(wrong, 0));
            Lawns.unchangedOnAll("9: hoe " + wrong + " ahead of what", Check.NO_PLACE, lawn -> lawn.hoeOf(wrong, 5));
        }
        for (int wrong : Lawns.outside(0, 4)) {
            Lawns.unchanged("9: what " + wrong, Check.NO_NUMBER, Lawns::some, lawn -> lawn.hoeOf(1, wrong));
            Lawns.unchanged("9: what " + wrong, Check.NO_NUMBER, Lawns::full, lawn -> lawn.hoeOf(3, wrong));
        }
        Lawns.unchanged("9: the first of none", Check.NO_PLACE, LawnGardeners::new, lawn -> lawn.hoeOf(0, 0));
        Lawns.unchanged("9: the third of two", Check.NO_PLACE, Lawns::some, lawn -> lawn.hoeOf(2, 0));
    }

    private static void hoeOfANewOne() {
        LawnGardeners lawn = Lawns.full();
        lawn.drop(0);
        lawn.hoe(0, 8, 3);
        int[] due = {0, 8, 3, 0, 0};
        for (int what = 0; what < 5; what++) {
            int it = what;
            Check.due("9: number " + what + " of a new one", due[what], () -> lawn.hoeOf(3, it));
        }
        LawnGardeners wait = Lawns.facing(1);
        wait.step(40);
        Check.due("9: a hoe that waits does not go on", 0, () -> wait.hoeOf(0, 3));
        Check.due("9: and meets in each step", 40, () -> wait.hoeOf(0, 4));
        Check.due("9: it stays", 8, () -> wait.hoeOf(0, 1));
    }
}
