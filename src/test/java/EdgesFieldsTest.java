import java.util.function.Function;

/** The promises 16 to 20 at their edges: colours out of range, none, all cells, fields across the lawn's ends. */
public final class EdgesFieldsTest {
    public static void main(String[] args) {
        coloursOutOfRange();
        cellsOutOfRange();
        looksChangeNothing();
        lawnOfOneColour();
        coloursThatThereAreNot();
        acrossTheEndsOfRows();
        acrossTheEndsOfColumns();
        cornersOfTheLawn();
        cellsByTheirCorners();
        ringsRoundTheLawn();
        mostFields();
        windingFields();
        fieldsOfEachColour();
        greatestOfSeveral();
        paintedByHoes();
        Check.eachPromise(16, 20);
        Check.end();
    }

    private static LawnGardeners painted(String... rows) {
        LawnGardeners lawn = new LawnGardeners();
        lawn.colours(4);
        for (int cell = 0; cell < 81; cell++) {
            int colour = rows[cell / 9].charAt(cell % 9) - '0';
            if (colour != 0) {
                lawn.paint(cell / 9, cell % 9, colour);
            }
        }
        return lawn;
    }

    private static void fieldsAre(String what, LawnGardeners lawn, int colour, int cells, int fields, int greatest) {
        Check.due("16: " + what, cells, () -> lawn.count(colour));
        Check.due("17: " + what, fields, () -> lawn.fields(colour));
        Check.due("18: " + what, fields, () -> lawn.fieldsAgain(colour));
        Check.due("20: " + what, greatest, () -> lawn.greatest(colour));
    }

    private static void onAll(String what, String due, Function<LawnGardeners, Object> call) {
        Lawns.unchangedOnAll(what, due, call);
    }

    private static void coloursOutOfRange() {
        for (int wrong : Lawns.outside(0, 3)) {
            onAll("16: colour " + wrong, Check.NO_NUMBER, lawn -> lawn.count(wrong));
            onAll("17: colour " + wrong, Check.NO_NUMBER, lawn -> lawn.fields(wrong));
            onAll("18: colour " + wrong, Check.NO_NUMBER, lawn -> lawn.fieldsAgain(wrong));
            onAll("20: colour " + wrong, Check.NO_NUMBER, lawn -> lawn.greatest(wrong));
        }
    }

    private static void cellsOutOfRange() {
        for (int wrong : Lawns.outside(0, 8)) {
            onAll("19: row " + wrong, Check.NO_PLACE, lawn -> lawn.field(wrong, 0));
            onAll("19: column " + wrong, Check.NO_PLACE, lawn -> lawn.field(8, wrong));
        }
    }

    private static void looksChangeNothing() {
        LawnGardeners like = Lawns.some();
        int cells = like.count(1);
        int fields = like.fields(1);
        int size = like.field(4, 4);
        int greatest = like.greatest(1);
        Lawns.unchanged("16: changes nothing", cells, Lawns::some, lawn -> lawn.count(1));
        Lawns.unchanged("17: changes nothing", fields, Lawns::some, lawn -> lawn.fields(1));
        Lawns.unchanged("18: changes nothing", fields, Lawns::some, lawn -> lawn.fieldsAgain(1));
        Lawns.unchanged("19: changes nothing", size, Lawns::some, lawn -> lawn.field(4, 4));
        Lawns.unchanged("20: changes nothing", greatest, Lawns::some, lawn -> lawn.greatest(1));
        Check.due("20: again and again", greatest, () -> like.greatest(1));
        Check.due("17: again and again", fields, () -> like.fields(1));
        Check.due("19: again and again", size, () -> like.field(4, 4));
    }

    private static void lawnOfOneColour() {
        for (int colour = 0; colour < 4; colour++) {
            String row = String.valueOf(colour).repeat(9);
            LawnGardeners lawn = painted(row, row, row, row, row, row, row, row, row);
            for (int other = 0; other < 4; other++) {
                int all = other == colour ? 81 : 0;
                fieldsAre("all of " + colour, lawn, other, all, all / 81, all);
            }
            Check.due("19: the whole lawn", 81, () -> lawn.field(8, 8));
        }
    }

    private static void coloursThatThereAreNot() {
        LawnGardeners lawn = new LawnGardeners();
        fieldsAre("of two colours", lawn, 2, 0, 0, 0);
        fieldsAre("of two colours", lawn, 3, 0, 0, 0);
        lawn.colours(4);
        lawn.paint(4, 4, 3);
        lawn.paint(4, 5, 2);
        lawn.colours(3);
        fieldsAre("of three colours", lawn, 3, 0, 0, 0);
        fieldsAre("of three colours", lawn, 2, 1, 1, 1);
        fieldsAre("of three colours", lawn, 0, 80, 1, 80);
    }

    private static void acrossTheEndsOfRows() {
        LawnGardeners lawn = painted("000000000", "000000000", "000000000", "000000000", "100000001",
            "000000000", "000000000", "000000000", "000000000");
        fieldsAre("across the ends of rows", lawn, 1, 2, 1, 2);
        Check.due("19: from the left end", 2, () -> lawn.field(4, 0));
        Check.due("19: from the right end", 2, () -> lawn.field(4, 8));
        lawn.paint(5, 8, 1);
        lawn.paint(4, 8, 0);
        fieldsAre("not to another row", lawn, 1, 2, 2, 1);
    }

    private static void acrossTheEndsOfColumns() {
        LawnGardeners lawn = painted("000010000", "000000000", "000000000", "000000000", "000000000",
            "000000000", "000000000", "000000000", "000010000");
        fieldsAre("across the ends of columns", lawn, 1, 2, 1, 2);
        Check.due("19: from the upper end", 2, () -> lawn.field(0, 4));
        Check.due("19: from the lower end", 2, () -> lawn.field(8, 4));
        lawn.paint(8, 5, 1);
        lawn.paint(8, 4, 0);
        fieldsAre("not to another column", lawn, 1, 2, 2, 1);
    }

    private static void cornersOfTheLawn() {
        LawnGardeners lawn = painted("200000002", "000000000", "000000000", "000000000", "000000000",
            "000000000", "000000000", "000000000", "200000002");
        fieldsAre("the lawn's corners", lawn, 2, 4, 1, 4);
        for (int corner = 0; corner < 4; corner++) {
            int it = corner;
            Check.due("19: the corner " + corner, 4, () -> lawn.field(it / 2 * 8, it % 2 * 8));
        }
        lawn.paint(0, 8, 0);
        lawn.paint(8, 0, 0);
        fieldsAre("opposite corners", lawn, 2, 2, 2, 1);
    }

    private static void cellsByTheirCorners() {
        LawnGardeners lawn = painted("100000000", "010000000", "001000000", "000100000", "000010000",
            "000001000", "000000100", "000000010", "000000001");
        fieldsAre("from corner to corner", lawn, 1, 9, 9, 1);
        fieldsAre("beside it, hangs together across the ends", lawn, 0, 72, 1, 72);
        Check.due("19: alone", 1, () -> lawn.field(8, 8));
    }

    private static void ringsRoundTheLawn() {
        LawnGardeners lawn = painted("000000000", "111111111", "000000000", "000000000", "111111111",
            "000000000", "000000000", "111111111", "000000000");
        fieldsAre("three rows", lawn, 1, 27, 3, 9);
        fieldsAre("between them", lawn, 0, 54, 3, 18);
        Check.due("19: above and below the lawn's end", 18, () -> lawn.field(0, 0));
        LawnGardeners columns = painted("010010010", "010010010", "010010010", "010010010", "010010010",
            "010010010", "010010010", "010010010", "010010010");
        fieldsAre("three columns", columns, 1, 27, 3, 9);
        fieldsAre("between the columns", columns, 0, 54, 3, 18);
        Check.due("19: on both sides of the lawn's end", 18, () -> columns.field(8, 8));
    }

    private static void mostFields() {
        LawnGardeners lawn = painted("010101010", "101010100", "010101010", "101010100", "010101010",
            "101010100", "010101010", "101010100", "000000000");
        fieldsAre("none beside another", lawn, 1, 32, 32, 1);
        LawnGardeners mixed = painted("012012012", "120120120", "201201201", "012012012", "120120120",
            "201201201", "012012012", "120120120", "201201201");
        for (int colour = 0; colour < 3; colour++) {
            fieldsAre("no two alike side by side", mixed, colour, 27, 27, 1);
        }
        fieldsAre("no two alike side by side", mixed, 3, 0, 0, 0);
    }

    private static void windingFields() {
        LawnGardeners lawn = painted("111111110", "000000010", "111111010", "100001010", "101101010",
            "101001010", "101111010", "100000010", "111111110");
        fieldsAre("a spiral", lawn, 1, 44, 1, 44);
        Check.due("19: its inner end", 44, () -> lawn.field(4, 3));
        lawn.paint(5, 2, 0);
        fieldsAre("a spiral that is cut", lawn, 1, 43, 2, 41);
        Check.due("19: what is cut off", 2, () -> lawn.field(4, 3));
    }

    private static void fieldsOfEachColour() {
        LawnGardeners lawn = painted("001122330", "001122330", "000000000", "330000110", "330000110",
            "000000000", "002222220", "000000000", "330000330");
        fieldsAre("of 0", lawn, 0, 51, 1, 51);
        fieldsAre("of 1", lawn, 1, 8, 2, 4);
        fieldsAre("of 2", lawn, 2, 10, 2, 6);
        fieldsAre("of 3", lawn, 3, 12, 3, 6);
        Check.due("19: not of another colour beside it", 4, () -> lawn.field(0, 4));
        Check.due("19: across the end of columns", 6, () -> lawn.field(8, 6));
    }

    private static void greatestOfSeveral() {
        LawnGardeners first = painted("111000110", "000000000", "100000000", "000000000", "000000000",
            "000000000", "000000000", "000000000", "000000000");
        fieldsAre("the first is the greatest", first, 1, 6, 3, 3);
        LawnGardeners last = painted("010001010", "000000000", "110001100", "000000000", "000000000",
            "000000000", "000000000", "001111100", "000000000");
        fieldsAre("the last is the greatest", last, 1, 12, 6, 5);
    }

    private static void paintedByHoes() {
        LawnGardeners lawn = Lawns.straight();
        lawn.hoe(0, 7, 1);
        lawn.hoe(7, 0, 2);
        lawn.step(3);
        Check.due("16: where both were", 0, () -> lawn.at(0, 0));
        fieldsAre("two lines that cross at the lawn's corner", lawn, 1, 4, 2, 2);
        lawn.paint(0, 0, 1);
        fieldsAre("two lines across the lawn's corner", lawn, 1, 5, 1, 5);
    }
}
