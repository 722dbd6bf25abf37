import java.util.Random;

/** Long runs of calls, the same ones each time, answered by LawnGardeners and by Model. */
public final class ModelTest {
    private static final int RUNS = 400;
    private static final int CALLS = 512;
    private static final String[] CHANGES = {"hoe", "drop", "colours", "turn", "paint", "manner", "step", "step",
        "step", "back", "back", "back", "run", "undo", "undo", "save", "restore"};
    private static final String[] LOOKS = {"at", "hoeOf", "on", "isInverse", "trail", "painted", "count", "fields",
        "fieldsAgain", "field", "greatest", "willBe", "willMeet", "meetIn", "isBackIn", "highway", "ranked", "rowLine",
        "turnLine", "character", "append", "errorPosition", "refusal", "account", "isWell", "meanColour",
        "paintedShare"};

    private final Random random;
    private final int run;
    private final LawnGardeners lawn = new LawnGardeners();
    private final Model model = new Model();

    private ModelTest(int run) {
        this.run = run;
        this.random = new Random(run);
    }

    public static void main(String[] args) {
        for (int run = 0; run < RUNS; run++) {
            new ModelTest(run).compare();
        }
        Check.end();
    }

    private void compare() {
        for (int call = 0; call < CALLS; call++) {
            boolean isChange = random.nextInt(100) < 40;
            String name = isChange ? any(CHANGES) : any(LOOKS);
            if (name.equals("drop") && random.nextInt(3) > 0) {
                name = "hoe";
            }
            if (name.equals("run")) {
                append(text());
            }
            if (name.equals("append")) {
                due(name, random.nextInt(4) == 0 ? random.nextInt(65536) : "hxptkmsb0123456789=;urdlNRLU".charAt(random.nextInt(28)), 0, 0);
            } else {
                due(name, number(name, 0), number(name, 1), number(name, 2));
            }
        }
        for (int what = 0; what <= 10; what++) {
            due("account", what, 0, 0);
        }
        for (int cell = 0; cell < 81; cell++) {
            due("at", cell / 9, cell % 9, 0);
            due("painted", cell / 9, cell % 9, 0);
        }
    }

    private void due(String name, int a, int b, int c) {
        String want = Check.answer(() -> model.call(name, a, b, c));
        Check.due("run " + run + " " + name + "(" + a + ", " + b + ", " + c + ")", want, () -> answer(name, a, b, c));
    }

    private String any(String[] names) {
        return names[random.nextInt(names.length)];
    }

    /** Mostly a number in range, now and then one on the edge or far outside. */
    private int number(String name, int place) {
        if (random.nextInt(40) == 0) {
            return new int[] {-1, 4, 5, 9, 11, 41, 201, Integer.MIN_VALUE, Integer.MAX_VALUE}[random.nextInt(9)];
        }
        switch (name) {
            case "step": return random.nextInt(3) == 0 ? 1 + random.nextInt(40) : 1 + random.nextInt(4);
            case "willBe": return place == 0 ? random.nextInt(4) : random.nextInt(201);
            case "willMeet": return random.nextInt(201);
            case "hoe": case "paint": return place < 2 ? near() : random.nextInt(4);
            case "at": case "on": case "painted": case "field": case "rowLine": case "character":
                return random.nextInt(9);
            case "trail": return random.nextInt(13);
            case "colours": return 2 + random.nextInt(3);
            case "manner": return random.nextInt(3);
            case "hoeOf": return random.nextInt(place == 0 ? 4 : 5);
            case "account": return random.nextInt(11);
            case "refusal": return random.nextInt(2);
            default: return random.nextInt(4);
        }
    }

    /** Hoes near one another meet more often. */
    private int near() {
        return random.nextBoolean() ? 3 + random.nextInt(3) : random.nextInt(9);
    }

    private void append(String text) {
        for (char c : text.toCharArray()) {
            due("append", c, 0, 0);
        }
    }

    private String text() {
        StringBuilder text = new StringBuilder();
        int orders = 1 + random.nextInt(random.nextBoolean() ? 3 : 14);
        for (int i = 0; i < orders; i++) {
            text.append(i == 0 ? "" : ";").append(order());
        }
        if (random.nextInt(4) == 0) {
            int place = random.nextInt(text.length());
            text.setCharAt(place, "hxptkmsb0123456789=;urdlNRLUz ".charAt(random.nextInt(30)));
        }
        if (random.nextInt(10) == 0) {
            text.setLength(random.nextInt(text.length() + 1));
        }
        return text.toString();
    }

    private String order() {
        switch (random.nextInt(14)) {
            case 0: case 1: return "h" + near() + near() + "urdl".charAt(random.nextInt(4));
            case 2: return "x" + random.nextInt(3);
            case 3: return "p" + near() + near() + "=" + random.nextInt(3);
            case 4: return "t" + random.nextInt(4) + "=" + "NRLU".charAt(random.nextInt(4));
            case 5: return "k" + (2 + random.nextInt(3));
            case 6: return "m" + random.nextInt(3);
            case 7: case 8: case 9: return "s" + (1 + random.nextInt(9));
            case 10: return "s" + random.nextInt(5) + random.nextInt(10);
            default: return "b";
        }
    }

    private Object answer(String name, int a, int b, int c) {
        switch (name) {
            case "hoe": return lawn.hoe(a, b, c);
            case "drop": return lawn.drop(a);
            case "colours": return lawn.colours(a);
            case "turn": return lawn.turn(a, b);
            case "paint": return lawn.paint(a, b, c);
            case "manner": return lawn.manner(a);
            case "at": return lawn.at(a, b);
            case "hoeOf": return lawn.hoeOf(a, b);
            case "on": return lawn.on(a, b);
            case "step": return lawn.step(a);
            case "back": return lawn.back();
            case "isInverse": return lawn.isInverse();
            case "trail": return lawn.trail(a);
            case "painted": return lawn.painted(a, b);
            case "count": return lawn.count(a);
            case "fields": return lawn.fields(a);
            case "fieldsAgain": return lawn.fieldsAgain(a);
            case "field": return lawn.field(a, b);
            case "greatest": return lawn.greatest(a);
            case "willBe": return lawn.willBe(a, b);
            case "willMeet": return lawn.willMeet(a);
            case "meetIn": return lawn.meetIn();
            case "isBackIn": return lawn.isBackIn(a);
            case "highway": return lawn.highway(a);
            case "ranked": return lawn.ranked(a);
            case "rowLine": return lawn.rowLine(a);
            case "turnLine": return lawn.turnLine();
            case "character": return lawn.character(a);
            case "append": return lawn.append((char) a);
            case "run": return lawn.run();
            case "errorPosition": return lawn.errorPosition();
            case "refusal": return lawn.refusal(a != 0);
            case "account": return lawn.account(a);
            case "isWell": return lawn.isWell();
            case "meanColour": return lawn.meanColour();
            case "paintedShare": return lawn.paintedShare();
            case "undo": return lawn.undo();
            case "save": return lawn.save();
            case "restore": return lawn.restore();
            default: throw new AssertionError(name);
        }
    }
}
