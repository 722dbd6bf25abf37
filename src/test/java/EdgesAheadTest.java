import java.util.function.Supplier;

/** The promises 21 to 26 at their edges: too few or too many steps, no hoes, hoes that never meet or come back. */
public final class EdgesAheadTest {
    private static final int[] TURN_OF_QUARTERS = {0, 1, 3, 2};
    private static final String[] TEXTS = {
        "h44u", "h44u;s40;s40", "k3;t2=U;h44u;h20r;s11", "m1;h44u;h45l;h54d", "m2;h44u;h45l;h54d;h08r",
        "k4;t2=R;t3=L;h44u;h45l;h80d;h08r;s33", "m1;k4;t2=U;t3=R;h00u;h88l;h08r;h80d", "t0=N;t1=N;h00r;h08l",
        "m2;t0=N;t1=U;h00r;h08l;h40d", "k3;t0=L;h14l;h25r;s37", "t0=U;t1=N;m1;p87=1;h47d;h07d;s29",
    };

    public static void main(String[] args) {
        willBeOutOfRange();
        willMeetOutOfRange();
        isBackInOutOfRange();
        highwayOutOfRange();
        rankedOutOfRange();
        nothingComesWithoutHoes();
        looksChangeNothing();
        fewestAndMostSteps();
        aheadIsAsStepsAre();
        firstMeetings();
        firstMeetingsOnOneCell();
        firstReturns();
        highwaysByHeadings();
        highwaysByTheColourBelow();
        highwayLooksAtThreePeriods();
        rankedBySteps();
        rankedOfSeveral();
        Check.eachPromise(21, 26);
        Check.end();
    }

    private static void willBeOutOfRange() {
        for (int wrong : Lawns.outside(0, 3)) {
            Lawns.unchangedOnAll("21: hoe " + wrong, Check.NO_PLACE, lawn -> lawn.willBe(wrong, 0));
            Lawns.unchangedOnAll("21: hoe " + wrong + " ahead of the steps", Check.NO_PLACE,
                lawn -> lawn.willBe(wrong, 201));
        }
        for (int wrong : Lawns.outside(0, 200)) {
            Lawns.unchanged("21: steps " + wrong, Check.NO_NUMBER, Lawns::some, lawn -> lawn.willBe(1, wrong));
            Lawns.unchanged("21: steps " + wrong, Check.NO_NUMBER, Lawns::full, lawn -> lawn.willBe(3, wrong));
        }
        Lawns.unchanged("21: the third of two", Check.NO_PLACE, Lawns::some, lawn -> lawn.willBe(2, 1));
    }

    private static void willMeetOutOfRange() {
        for (int wrong : Lawns.outside(0, 200)) {
            Lawns.unchangedOnAll("22: steps " + wrong, Check.NO_NUMBER, lawn -> lawn.willMeet(wrong));
        }
    }

    private static void isBackInOutOfRange() {
        for (int wrong : Lawns.outside(0, 3)) {
            Lawns.unchangedOnAll("24: hoe " + wrong, Check.NO_PLACE, lawn -> lawn.isBackIn(wrong));
        }
        Lawns.unchanged("24: the third of two", Check.NO_PLACE, Lawns::some, lawn -> lawn.isBackIn(2));
        Lawns.unchanged("24: not within 200 steps", Check.NOTHING, EdgesAheadTest::neverBack, lawn -> lawn.isBackIn(0));
    }

    private static LawnGardeners neverBack() {
        return Lawns.made("t0=N;t1=R;h83l;h42u;s39");
    }

    private static void highwayOutOfRange() {
        for (int wrong : Lawns.outside(0, 3)) {
            Lawns.unchangedOnAll("25: hoe " + wrong, Check.NO_PLACE, lawn -> lawn.highway(wrong));
        }
        Lawns.unchanged("25: the third of two", Check.NO_PLACE, Lawns::some, lawn -> lawn.highway(2));
        Lawns.unchanged("25: none", Check.NOTHING, () -> Lawns.made("h44u;s40;s3"), lawn -> lawn.highway(0));
    }

    private static void rankedOutOfRange() {
        for (int wrong : Lawns.outside(0, 3)) {
            Lawns.unchangedOnAll("26: place " + wrong, Check.NOTHING, lawn -> lawn.ranked(wrong));
        }
        Lawns.unchanged("26: the third of two", Check.NOTHING, Lawns::some, lawn -> lawn.ranked(2));
        Lawns.unchanged("26: the first of none", Check.NOTHING, LawnGardeners::new, lawn -> lawn.ranked(0));
    }

    private static void nothingComesWithoutHoes() {
        Supplier<LawnGardeners> none = () -> Lawns.made("h44u;h20r;s9;x0;x0");
        for (Supplier<LawnGardeners> maker : java.util.List.<Supplier<LawnGardeners>>of(LawnGardeners::new, none)) {
            Lawns.unchanged("21: no hoe", Check.NO_PLACE, maker, lawn -> lawn.willBe(0, 0));
            Lawns.unchanged("22: no meetings in 0 steps", 0, maker, lawn -> lawn.willMeet(0));
            Lawns.unchanged("22: no meetings in 200 steps", 0, maker, lawn -> lawn.willMeet(200));
            Lawns.unchanged("23: no hoes", Check.NOTHING, maker, lawn -> lawn.meetIn());
            Lawns.unchanged("24: no hoe", Check.NO_PLACE, maker, lawn -> lawn.isBackIn(0));
            Lawns.unchanged("25: no hoe", Check.NO_PLACE, maker, lawn -> lawn.highway(0));
            Lawns.unchanged("26: no hoe", Check.NOTHING, maker, lawn -> lawn.ranked(0));
        }
        LawnGardeners one = Lawns.made("h44u");
        Check.due("22: one hoe alone", 0, () -> one.willMeet(200));
        Check.due("23: one hoe alone", Check.NOTHING, one::meetIn);
    }

    private static void looksChangeNothing() {
        Supplier<LawnGardeners> maker = () -> Lawns.made("m1;h44u;h46u;s7");
        LawnGardeners like = maker.get();
        int cell = like.willBe(1, 200);
        int meetings = like.willMeet(200);
        String first = Check.answer(like::meetIn);
        String back = Check.answer(() -> like.isBackIn(0));
        String period = Check.answer(() -> like.highway(0));
        Lawns.unchanged("21: changes nothing", cell, maker, lawn -> lawn.willBe(1, 200));
        Lawns.unchanged("22: changes nothing", meetings, maker, lawn -> lawn.willMeet(200));
        Lawns.unchanged("23: changes nothing", first, maker, lawn -> lawn.meetIn());
        Lawns.unchanged("24: changes nothing", back, maker, lawn -> lawn.isBackIn(0));
        Lawns.unchanged("25: changes nothing", period, maker, lawn -> lawn.highway(0));
        Lawns.unchanged("26: changes nothing", 0, maker, lawn -> lawn.ranked(0));
        Check.due("21: again and again", cell, () -> like.willBe(1, 200));
        Check.due("22: again and again", meetings, () -> like.willMeet(200));
        Check.due("23: again and again", first, like::meetIn);
    }

    private static void fewestAndMostSteps() {
        LawnGardeners lawn = Lawns.straight();
        lawn.hoe(8, 8, 2);
        lawn.hoe(0, 0, 0);
        Check.due("21: behind 0 steps", 80, () -> lawn.willBe(0, 0));
        Check.due("21: behind 1 step", 8, () -> lawn.willBe(0, 1));
        Check.due("21: behind 9 steps", 80, () -> lawn.willBe(0, 9));
        Check.due("21: behind 199 steps", 8, () -> lawn.willBe(0, 199));
        Check.due("21: behind 200 steps", 17, () -> lawn.willBe(0, 200));
        Check.due("21: the other over the end", 72, () -> lawn.willBe(1, 1));
        Check.due("21: the other behind 200 steps", 63, () -> lawn.willBe(1, 200));
        LawnGardeners wait = Lawns.facing(1);
        Check.due("22: in 0 steps", 0, () -> wait.willMeet(0));
        Check.due("22: in 1 step", 2, () -> wait.willMeet(1));
        Check.due("22: in 199 steps", 398, () -> wait.willMeet(199));
        Check.due("22: in 200 steps", 400, () -> wait.willMeet(200));
        wait.step(3);
        Check.due("22: only those that come", 2, () -> wait.willMeet(1));
    }

    /** All that is told ahead of 200 steps, and then these steps. */
    private static void aheadIsAsStepsAre() {
        for (String text : TEXTS) {
            for (int steps : new int[] {0, 1, 2, 30, 40, 41, 199, 200}) {
                LawnGardeners ahead = Lawns.made(text);
                LawnGardeners lawn = Lawns.made(text);
                int met = lawn.account(7);
                for (int left = steps; left > 0; left -= 40) {
                    lawn.step(Math.min(40, left));
                }
                for (int hoe = 0; hoe < ahead.account(0); hoe++) {
                    int it = hoe;
                    Check.due("21: " + text + ", hoe " + hoe + " behind " + steps, lawn.willBe(hoe, 0),
                        () -> ahead.willBe(it, steps));
                }
                Check.due("22: " + text + " in " + steps, lawn.account(7) - met, () -> ahead.willMeet(steps));
            }
        }
    }

    private static void firstMeetings() {
        for (String text : TEXTS) {
            LawnGardeners lawn = Lawns.made(text);
            int met = lawn.account(7);
            int step = 0;
            for (int made = 1; made <= 200 && step == 0; made++) {
                lawn.step(1);
                step = lawn.account(7) > met ? made : 0;
            }
            Check.due("23: " + text, step == 0 ? Check.NOTHING : step, () -> Lawns.made(text).meetIn());
        }
        Supplier<LawnGardeners> never = () -> Lawns.made("t0=N;t1=N;h00r;h20r;h40r;h60r");
        Lawns.unchanged("23: never", Check.NOTHING, never, lawn -> lawn.meetIn());
        Supplier<LawnGardeners> late = () -> {
            LawnGardeners lawn = Lawns.made("k3;t0=L;h14l;h25r;s37");
            lawn.back();
            return lawn;
        };
        Lawns.unchanged("23: in the step 201", Check.NOTHING, late, lawn -> lawn.meetIn());
        Check.due("22: in the step 201", 0, () -> late.get().willMeet(200));
        LawnGardeners soon = late.get();
        soon.step(1);
        Check.due("23: in the step 200", 200, soon::meetIn);
        Check.due("22: in the step 200", true, () -> soon.willMeet(200) > 0);
        soon.step(40);
        Check.due("23: in the step 160", 160, soon::meetIn);
    }

    /** To be on one cell is no meeting: the hoe that comes there meets. */
    private static void firstMeetingsOnOneCell() {
        LawnGardeners lawn = Lawns.made("t0=N;t1=N;h43r;h45l;s1");
        Check.due("10: both on a cell", 2, () -> lawn.on(4, 4));
        Check.due("22: they go away from one another", 0, () -> lawn.willMeet(3));
        Check.due("23: they meet on the other side", 5, lawn::meetIn);
        LawnGardeners together = Lawns.made("t0=N;t1=U;h45l;h43r;p44=1;s1");
        Check.due("10: both on a cell once more", 2, () -> together.on(4, 4));
        Check.due("23: the second goes where the first went", 1, together::meetIn);
        Check.due("22: that is one more meeting", 1, () -> together.willMeet(1));
        together.step(1);
        Check.due("10: both on the next cell", 2, () -> together.on(4, 5));
    }

    private static void firstReturns() {
        for (String text : TEXTS) {
            for (int hoe = 0; hoe < Lawns.made(text).account(0); hoe++) {
                int it = hoe;
                LawnGardeners lawn = Lawns.made(text);
                int cell = lawn.willBe(hoe, 0);
                int step = 0;
                for (int made = 1; made <= 200 && step == 0; made++) {
                    lawn.step(1);
                    step = lawn.willBe(hoe, 0) == cell ? made : 0;
                }
                Check.due("24: " + text + ", hoe " + hoe, step == 0 ? Check.NOTHING : step,
                    () -> Lawns.made(text).isBackIn(it));
            }
        }
        Check.due("24: a hoe that waits", 1, () -> Lawns.facing(1).isBackIn(1));
        Check.due("24: a hoe that stays and turns back", 1, () -> Lawns.facing(2).isBackIn(0));
        Check.due("24: straight round the lawn", 9, () -> Lawns.facing(0).isBackIn(1));
        LawnGardeners late = Lawns.made("k4;t0=L;t3=U;h06u;s30");
        Check.due("24: in the step 200", 200, () -> late.isBackIn(0));
        LawnGardeners later = neverBack();
        int cell = later.willBe(0, 0);
        int[] on = new int[1];
        for (int made = 1; made <= 201; made++) {
            later.step(1);
            on[0] = on[0] == 0 && later.willBe(0, 0) == cell ? made : on[0];
        }
        Check.due("24: the hoe is back in the step 201", 201, () -> on[0]);
    }

    private static String periodOf(int[] turns) {
        for (int period = 1; period <= 40; period++) {
            boolean is = true;
            for (int step = 0; step < 2 * period; step++) {
                is = is && turns[step] == turns[step + period];
            }
            if (is) {
                return String.valueOf(period);
            }
        }
        return Check.NOTHING;
    }

    /** By the manners 0 and 1 a hoe's heading changes by its turn alone. */
    private static void highwaysByHeadings() {
        for (String text : TEXTS) {
            for (int hoe = 0; hoe < Lawns.made(text).account(0); hoe++) {
                int it = hoe;
                LawnGardeners lawn = Lawns.made(text);
                if (lawn.account(2) == 2) {
                    continue;
                }
                int[] turns = new int[120];
                for (int step = 0; step < 120; step++) {
                    int before = lawn.hoeOf(hoe, 2);
                    lawn.step(1);
                    turns[step] = TURN_OF_QUARTERS[(lawn.hoeOf(hoe, 2) - before + 4) % 4];
                }
                Check.due("25: " + text + ", hoe " + hoe, periodOf(turns), () -> Lawns.made(text).highway(it));
            }
        }
    }

    /** The hoe 0 moves first, so that the colour below it ahead of a step is that by which it turns. */
    private static void highwaysByTheColourBelow() {
        for (String text : TEXTS) {
            LawnGardeners lawn = Lawns.made(text);
            int many = lawn.turnLine();
            String turnLine = Check.line(lawn, many);
            int[] turns = new int[120];
            for (int step = 0; step < 120; step++) {
                int cell = lawn.willBe(0, 0);
                turns[step] = turnLine.charAt(lawn.at(cell / 9, cell % 9));
                lawn.step(1);
            }
            Check.due("25: " + text + ", the first hoe", periodOf(turns), () -> Lawns.made(text).highway(0));
        }
        LawnGardeners longest = Lawns.made("t0=U;t1=N;m1;p87=1;h47d;h07d;s29");
        Check.due("25: the longest", 40, () -> longest.highway(0));
        LawnGardeners tooLong = Lawns.made("k3;t0=U;t2=L;m2;h03l;h61r;h02l;h70d;s36");
        Check.due("25: of 41", Check.NOTHING, () -> tooLong.highway(0));
    }

    /** A hoe that goes up turns to the right and to the left in turn; the paintings are its stairs. */
    private static void highwayLooksAtThreePeriods() {
        LawnGardeners one = Lawns.made("h44u");
        Check.due("25: three turns alike", 1, () -> one.highway(0));
        one.paint(5, 5, 1);
        Check.due("25: the third is another", true, () -> !"1".equals(Check.answer(() -> one.highway(0))));
        LawnGardeners two = Lawns.made("h44u;p45=1;p36=1;p27=1");
        Check.due("25: three times right and left", 2, () -> two.highway(0));
        two.paint(1, 7, 1);
        Check.due("25: the seventh turn does not matter", 2, () -> two.highway(0));
        two.paint(2, 7, 0);
        Check.due("25: the sixth turn does", true, () -> !"2".equals(Check.answer(() -> two.highway(0))));
        LawnGardeners absent = Lawns.made("t1=R;t2=L;t3=U;h44u;s40");
        Check.due("25: different colours with the same turn", 1, () -> absent.highway(0));
    }

    private static void rankedBySteps() {
        LawnGardeners lawn = Lawns.straight();
        for (int hoe = 0; hoe < 4; hoe++) {
            lawn.hoe(2 * hoe, 0, 1);
            lawn.step(1);
        }
        for (int place = 0; place < 4; place++) {
            int it = place;
            Check.due("26: the earlier, the more: place " + place, place, () -> lawn.ranked(it));
        }
        lawn.drop(0);
        lawn.hoe(8, 8, 1);
        int[] due = {0, 1, 2, 3};
        for (int place = 0; place < 4; place++) {
            int it = place;
            Check.due("26: numbers are 1 less: place " + place, due[place], () -> lawn.ranked(it));
        }
        LawnGardeners late = Lawns.made("t0=N;t1=N;m1;h00r;h01l;h20r;s5");
        Check.due("26: the third has gone on most", 2, () -> late.ranked(0));
        Check.due("26: of the others the lowest", 0, () -> late.ranked(1));
        Check.due("26: then the other", 1, () -> late.ranked(2));
        Check.due("26: no more", Check.NOTHING, () -> late.ranked(3));
    }

    private static void rankedOfSeveral() {
        LawnGardeners lawn = Lawns.made("h00r;h20r;h40r;h60r");
        for (int place = 0; place < 4; place++) {
            int it = place;
            Check.due("26: none has gone on: place " + place, place, () -> lawn.ranked(it));
        }
        LawnGardeners back = Lawns.made("t0=N;t1=N;m1;h00r;h01l;h20r;s5;b;b;b;b;b");
        for (int place = 0; place < 3; place++) {
            int it = place;
            Check.due("26: taken back: place " + place, place, () -> back.ranked(it));
        }
    }
}
