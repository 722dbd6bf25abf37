import java.util.function.Supplier;

/** The promises 11 to 15 at their edges: too small, too large, empty, full, over the lawn's ends, refused. */
public final class EdgesStepsTest {
    private static final int[][] ENDS = {{0, 4}, {4, 8}, {8, 4}, {4, 0}};
    private static final int[][] OTHER_ENDS = {{8, 4}, {4, 0}, {0, 4}, {4, 8}};

    public static void main(String[] args) {
        stepOutOfRange();
        stepRefused();
        stepsFewestAndMost();
        stepOverEachEnd();
        stepFromEachCorner();
        stepPaintsTheNextColour();
        meetOverEachEnd();
        meetingWithSeveralIsOne();
        stayingHoesHaveTurnedAndPainted();
        hoesMoveByTheirNumbers();
        backRefused();
        backMakesAllAsItWas();
        backUntilNoneIsLeft();
        eachChangeForgetsSteps();
        otherCallsForgetNoSteps();
        ordersForgetSteps();
        undoAndRestoreBringSteps();
        isInverseOfNoStep();
        isInverseOverEachEnd();
        isInverseOfManyHoes();
        isInverseOfStepsThatWereTakenBack();
        isInverseByOtherManners();
        trailOutOfRange();
        trailGrowsAndIsFull();
        trailHasEachCellOnce();
        trailOfSeveralHoes();
        paintedOutOfRange();
        paintedByHoesThatStay();
        Check.eachPromise(11, 15);
        Check.end();
    }

    private static void stepOutOfRange() {
        for (int wrong : Lawns.outside(1, 40)) {
            Lawns.unchangedOnAll("11: steps " + wrong, Check.NO_NUMBER, lawn -> lawn.step(wrong));
        }
    }

    private static void stepRefused() {
        Lawns.refused("11: no hoes yet", 4, 0, LawnGardeners::new, lawn -> lawn.step(1));
        Lawns.refused("11: no hoes yet for the most steps", 4, 0, LawnGardeners::new, lawn -> lawn.step(40));
        Supplier<LawnGardeners> dropped = () -> Lawns.made("h44u;s9;b;b;x0");
        Lawns.refused("11: no hoes any more", 4, 7, dropped, lawn -> lawn.step(1));
        Supplier<LawnGardeners> undone = () -> {
            LawnGardeners lawn = new LawnGardeners();
            lawn.hoe(4, 4, 0);
            lawn.undo();
            return lawn;
        };
        Lawns.refused("11: no hoes, by undo", 4, 0, undone, lawn -> lawn.step(40));
    }

    private static void stepsFewestAndMost() {
        LawnGardeners lawn = Lawns.made("h44u;h20r;h63d;h88l");
        Check.due("11: the fewest", 4, () -> lawn.step(1));
        Check.due("11: one step made", 1, () -> lawn.account(3));
        Check.due("11: the most", 160, () -> lawn.step(40));
        Check.due("11: all steps made", 41, () -> lawn.account(3));
        Check.due("11: each hoe went on", 41, () -> lawn.hoeOf(3, 3));
        LawnGardeners one = Lawns.made("h44u;s40");
        LawnGardeners byOne = Lawns.made("h44u");
        for (int made = 0; made < 40; made++) {
            byOne.step(1);
        }
        Check.due("11: many are as many by one", Lawns.look("lawn", one), () -> Lawns.look("lawn", byOne));
        LawnGardeners wait = Lawns.facing(1);
        Check.due("11: none goes on", 0, () -> wait.step(40));
        Check.due("11: the steps are made", 40, () -> wait.account(3));
    }

    private static void stepOverEachEnd() {
        for (int heading = 0; heading < 4; heading++) {
            int[] end = ENDS[heading];
            int[] other = OTHER_ENDS[heading];
            LawnGardeners lawn = Lawns.straight();
            lawn.hoe(end[0], end[1], heading);
            Check.due("21: over the end " + heading, 9 * other[0] + other[1], () -> lawn.willBe(0, 1));
            Check.due("11: over the end " + heading, 1, () -> lawn.step(1));
            Check.due("11: row over the end " + heading, other[0], () -> lawn.hoeOf(0, 0));
            Check.due("11: column over the end " + heading, other[1], () -> lawn.hoeOf(0, 1));
            Check.due("10: there", 1, () -> lawn.on(other[0], other[1]));
            lawn.step(8);
            Check.due("11: round the lawn, row", end[0], () -> lawn.hoeOf(0, 0));
            Check.due("11: round the lawn, column", end[1], () -> lawn.hoeOf(0, 1));
            Check.due("15: each cell once", 9, () -> lawn.account(6));
        }
    }

    private static void stepFromEachCorner() {
        int[][] corners = {{0, 0}, {0, 8}, {8, 0}, {8, 8}};
        int[][] due = {{72, 1, 9, 8}, {80, 0, 17, 7}, {63, 73, 0, 80}, {71, 72, 8, 79}};
        for (int i = 0; i < 4; i++) {
            for (int heading = 0; heading < 4; heading++) {
                LawnGardeners lawn = Lawns.straight();
                lawn.hoe(corners[i][0], corners[i][1], heading);
                lawn.step(1);
                Check.due("11: from the corner " + i + " by " + heading, due[i][heading], () -> lawn.willBe(0, 0));
                Check.due("13: back to the corner " + i, true, lawn::isInverse);
            }
        }
    }

    private static void stepPaintsTheNextColour() {
        for (int many = 2; many <= 4; many++) {
            LawnGardeners lawn = Lawns.straight();
            if (many > 2) {
                lawn.colours(many);
            }
            lawn.hoe(8, 0, 1);
            for (int round = 1; round <= 2 * many; round++) {
                int colour = round % many;
                lawn.step(9);
                Check.due("11: of " + many + " colours, round " + round, colour, () -> lawn.at(8, 4));
                Check.due("11: the whole row", colour == 0 ? 81 : 9, () -> lawn.count(colour));
            }
        }
    }

    private static void meetOverEachEnd() {
        for (int heading = 0; heading < 4; heading++) {
            for (int manner = 0; manner < 3; manner++) {
                int[] end = ENDS[heading];
                int[] other = OTHER_ENDS[heading];
                LawnGardeners lawn = Lawns.straight();
                if (manner != 0) {
                    lawn.manner(manner);
                }
                int beside = (heading + 1) % 4;
                lawn.hoe(end[0], end[1], heading);
                lawn.hoe(other[0], other[1], beside);
                String what = "11: over the end " + heading + " by the manner " + manner;
                Check.due(what, manner == 0 ? 2 : 1, () -> lawn.step(1));
                Check.due(what + ": meetings", 1, () -> lawn.hoeOf(0, 4));
                Check.due(what + ": not of the other", 0, () -> lawn.hoeOf(1, 4));
                int cell = manner == 0 ? 9 * other[0] + other[1] : 9 * end[0] + end[1];
                Check.due(what + ": cell", cell, () -> lawn.willBe(0, 0));
                Check.due(what + ": heading", manner == 2 ? (heading + 2) % 4 : heading, () -> lawn.hoeOf(0, 2));
                Check.due(what + ": heading of the other", manner == 2 ? (beside + 2) % 4 : beside,
                    () -> lawn.hoeOf(1, 2));
            }
        }
    }

    /** The hoe 0 comes to a cell with two others, behind one step. */
    private static LawnGardeners toTwo(int manner) {
        LawnGardeners lawn = Lawns.made("t0=N;t1=N;h24d;h43r;h45l;s1");
        if (manner != 0) {
            lawn.manner(manner);
        }
        return lawn;
    }

    private static void meetingWithSeveralIsOne() {
        for (int manner = 0; manner < 3; manner++) {
            LawnGardeners lawn = toTwo(manner);
            String what = "11: two hoes on a cell by the manner " + manner;
            int met = lawn.account(7);
            Check.due("22: two hoes on a cell are one meeting", 1, () -> lawn.willMeet(1));
            Check.due("23: in the next step", 1, lawn::meetIn);
            Check.due(what, manner == 0 ? 3 : 2, () -> lawn.step(1));
            Check.due(what + ": one meeting", 1, () -> lawn.hoeOf(0, 4));
            Check.due(what + ": one in all", met + 1, () -> lawn.account(7));
            Check.due(what + ": row", manner == 0 ? 4 : 3, () -> lawn.hoeOf(0, 0));
            int[][] headings = {{2, 1, 3}, {2, 1, 3}, {0, 3, 1}};
            for (int hoe = 0; hoe < 3; hoe++) {
                int it = hoe;
                Check.due(what + ": heading of " + hoe, headings[manner][hoe], () -> lawn.hoeOf(it, 2));
            }
        }
    }

    private static void stayingHoesHaveTurnedAndPainted() {
        for (int manner = 1; manner <= 2; manner++) {
            LawnGardeners lawn = Lawns.made("m" + manner + ";t1=N;h44u;h45u");
            lawn.paint(4, 5, 1);
            lawn.step(1);
            String what = "11: stays by the manner " + manner;
            Check.due(what, 4, () -> lawn.hoeOf(0, 1));
            Check.due(what + ": has turned", manner == 1 ? 1 : 3, () -> lawn.hoeOf(0, 2));
            Check.due(what + ": has painted", 1, () -> lawn.at(4, 4));
            Check.due("15: by the manner " + manner, 1, () -> lawn.painted(4, 4));
            Check.due("14: by the manner " + manner, 2, () -> lawn.account(8));
            Check.due(what + ": has not gone on", 0, () -> lawn.hoeOf(0, 3));
            Check.due(what + ": row of the other", manner == 1 ? 3 : 5, () -> lawn.hoeOf(1, 0));
        }
    }

    private static void hoesMoveByTheirNumbers() {
        LawnGardeners first = Lawns.made("t0=N;m1;h44r;h45r");
        Check.due("11: the hoe behind moves first, and meets", 1, () -> first.step(1));
        Check.due("11: it is where it was", 4, () -> first.hoeOf(0, 1));
        LawnGardeners second = Lawns.made("t0=N;m1;h45r;h44r");
        Check.due("11: the hoe behind moves second, and does not meet", 2, () -> second.step(1));
        Check.due("11: it is where the other was", 5, () -> second.hoeOf(1, 1));
        Check.due("11: nobody met", 0, () -> second.account(7));
        LawnGardeners same = Lawns.made("t0=N;t1=R;h43r;h45l;s1");
        same.step(1);
        Check.due("11: the first of two on a cell goes straight on", 5, () -> same.hoeOf(0, 1));
        Check.due("11: the second turns by the colour that the first painted", 0, () -> same.hoeOf(1, 2));
        Check.due("11: they painted twice", 0, () -> same.at(4, 4));
        Check.due("15: twice in a step", 2, () -> same.painted(4, 4));
    }

    private static void backRefused() {
        Lawns.refused("12: no step yet", 5, 0, LawnGardeners::new, lawn -> lawn.back());
        Lawns.refused("12: no step yet, but a hoe", 5, 0, () -> Lawns.made("h44u"), lawn -> lawn.back());
        Lawns.refused("12: all taken back", 5, 3, () -> Lawns.made("h44u;s3;b;b;b"), lawn -> lawn.back());
        Lawns.refused("12: forgotten", 5, 1, () -> Lawns.made("h44u;s3;b;m1"), lawn -> lawn.back());
        Supplier<LawnGardeners> most = () -> {
            LawnGardeners lawn = Lawns.made("h44u;s40");
            for (int left = 29; left >= 0; left--) {
                int it = left;
                Check.due("12: left", it, lawn::back);
            }
            return lawn;
        };
        Lawns.refused("12: the thirty-first", 5, 30, most, lawn -> lawn.back());
        Check.due("12: ten steps stay", 10, () -> most.get().account(3));
    }

    private static LawnGardeners busy(int manner) {
        LawnGardeners lawn = Lawns.made("k4;t2=U;t3=R;h44u;h46l;h64r;h08d;s9");
        lawn.paint(4, 5, 2);
        if (manner != 0) {
            lawn.manner(manner);
        }
        lawn.step(9);
        return lawn;
    }

    private static void backMakesAllAsItWas() {
        for (int manner = 0; manner < 3; manner++) {
            String due = Lawns.look("lawn", busy(manner));
            for (int many = 1; many <= 30; many++) {
                LawnGardeners lawn = busy(manner);
                lawn.step(many);
                for (int i = 1; i <= many; i++) {
                    int left = Math.min(30, 9 + many) - i;
                    Check.due("12: left", left, lawn::back);
                }
                Check.due("12: as ahead of " + many + " by the manner " + manner, due, () -> Lawns.look("lawn", lawn));
                Check.due("12: taken back are " + many + " more", many, () -> lawn.account(5));
            }
        }
    }

    private static void backUntilNoneIsLeft() {
        LawnGardeners lawn = Lawns.made("h44u");
        lawn.step(29);
        Check.due("12: less than the most", 29, () -> lawn.account(4));
        lawn.step(1);
        Check.due("12: the most", 30, () -> lawn.account(4));
        lawn.step(1);
        Check.due("12: no more than the most", 30, () -> lawn.account(4));
        for (int left = 29; left >= 0; left--) {
            int it = left;
            Check.due("12: left", it, lawn::back);
        }
        LawnGardeners one = Lawns.made("h44u;s1");
        Check.due("12: the oldest step stays", Lawns.look("lawn", one), () -> Lawns.look("lawn", lawn));
        Check.due("12: no more", Check.REFUSED, lawn::back);
        lawn.step(1);
        Check.due("12: a step made again", 0, lawn::back);
    }

    private static void changeOfKind(LawnGardeners lawn, int kind) {
        switch (kind) {
            case 0: lawn.hoe(8, 8, 0); break;
            case 1: lawn.drop(0); break;
            case 2: lawn.colours(3); break;
            case 3: lawn.turn(3, 1); break;
            case 4: lawn.paint(8, 8, 1 - lawn.at(8, 8)); break;
            default: lawn.manner(1);
        }
    }

    private static void eachChangeForgetsSteps() {
        for (int kind = 0; kind < 6; kind++) {
            LawnGardeners lawn = Lawns.made("h44u;h20r;s5;b");
            changeOfKind(lawn, kind);
            Check.due("12: none behind a change of kind " + kind, 0, () -> lawn.account(4));
            Check.due("12: refused behind a change of kind " + kind, Check.REFUSED, lawn::back);
            Check.due("33: steps taken back are not forgotten", 1, () -> lawn.refusal(true));
            Check.due("13: none behind a change of kind " + kind, Check.NOTHING, lawn::isInverse);
            Check.due("12: steps made are not forgotten", 4, () -> lawn.account(3));
            lawn.step(2);
            Check.due("12: later steps behind a change of kind " + kind, 1, lawn::back);
        }
    }

    private static void otherCallsForgetNoSteps() {
        LawnGardeners lawn = Lawns.made("h44u;s5");
        lawn.step(2);
        lawn.back();
        Check.due("12: step and back forget none", 6, () -> lawn.account(4));
        Check.run(lawn, "s3;b");
        Check.due("12: nor does run", 8, () -> lawn.account(4));
        Check.run(lawn, "m1;m1");
        Check.due("12: nor a text that is refused", 8, () -> lawn.account(4));
        Check.run(lawn, "m1;x9");
        Check.due("12: nor a text with a wrong number", 8, () -> lawn.account(4));
        Check.run(lawn, "m1;");
        Check.due("12: nor a text with an error", 8, () -> lawn.account(4));
        lawn.rowLine(0);
        lawn.turnLine();
        lawn.willBe(0, 200);
        Check.answer(() -> lawn.highway(0));
        Check.answer(lawn::isInverse);
        lawn.save();
        Check.due("12: nor a look", 8, () -> lawn.account(4));
    }

    private static void ordersForgetSteps() {
        String[] orders = {"h88u", "x0", "k3", "t3=R", "p88=1", "m1"};
        for (String order : orders) {
            LawnGardeners alone = Lawns.made("h44u;h20r;s5;" + order);
            Check.due("12: none behind " + order, 0, () -> alone.account(4));
            Check.due("12: refused behind " + order, Check.REFUSED, alone::back);
            LawnGardeners between = Lawns.made("h44u;h20r;s5;" + order + ";s3");
            Check.due("12: those made behind " + order, 2, between::back);
            LawnGardeners later = Lawns.made("h44u;h20r;s5");
            Check.due("12: in a text of its own", "1", () -> Check.run(later, order));
            Check.due("12: those of an earlier text, behind " + order, Check.REFUSED, later::back);
            LawnGardeners refused = Lawns.made("h44u;h20r;s5;b");
            Check.due("12: back behind " + order, Check.REFUSED, () -> Check.run(refused, order + ";b"));
            Check.due("33: reason of back behind " + order, 5, () -> refused.refusal(false));
            Check.due("33: detail of back behind " + order, 1, () -> refused.refusal(true));
            Check.due("12: a refused text forgets none", 3, refused::back);
        }
    }

    private static void undoAndRestoreBringSteps() {
        for (int kind = 0; kind < 6; kind++) {
            LawnGardeners lawn = Lawns.made("h44u;h20r;s40");
            lawn.save();
            changeOfKind(lawn, kind);
            lawn.undo();
            Check.due("38: steps behind the undo of a change of kind " + kind, 29, lawn::back);
            changeOfKind(lawn, kind);
            lawn.restore();
            Check.due("40: steps of the snapshot", 30, () -> lawn.account(4));
            String due = Lawns.look("past", Lawns.made("h44u;h20r;s40"));
            Check.due("40: each of the steps of the snapshot", due, () -> Lawns.look("past", lawn));
        }
    }

    private static void isInverseOfNoStep() {
        Lawns.unchanged("13: of a new lawn", Check.NOTHING, LawnGardeners::new, lawn -> lawn.isInverse());
        Lawns.unchanged("13: of a lawn with a hoe", Check.NOTHING, () -> Lawns.made("h44u"), lawn -> lawn.isInverse());
        Lawns.unchanged("13: all taken back", Check.NOTHING, () -> Lawns.made("h44u;s2;b;b"), lawn -> lawn.isInverse());
        Lawns.unchanged("13: forgotten", Check.NOTHING, () -> Lawns.made("h44u;s2;m1"), lawn -> lawn.isInverse());
        Lawns.unchanged("13: a look changes nothing", true, Lawns::some, lawn -> lawn.isInverse());
    }

    private static void isInverseOverEachEnd() {
        for (int heading = 0; heading < 4; heading++) {
            for (int many = 2; many <= 4; many++) {
                int[] end = ENDS[heading];
                LawnGardeners lawn = Lawns.straight();
                if (many > 2) {
                    lawn.colours(many);
                }
                lawn.hoe(end[0], end[1], heading);
                for (int made = 0; made < 9 * many; made++) {
                    lawn.step(1);
                    Check.due("13: over the end " + heading + " with " + many, true, lawn::isInverse);
                }
                Check.due("13: each cell was painted over to 0", 81, () -> lawn.count(0));
            }
        }
    }

    private static void isInverseOfManyHoes() {
        for (int many = 2; many <= 4; many++) {
            LawnGardeners lawn = new LawnGardeners();
            if (many > 2) {
                lawn.colours(many);
            }
            lawn.turn(2, 3);
            lawn.hoe(4, 4, 1);
            lawn.hoe(4, 5, 3);
            lawn.hoe(5, 4, 0);
            lawn.hoe(3, 5, 2);
            for (int made = 0; made < 150; made++) {
                lawn.step(1);
                Check.due("13: four hoes that go through one another", true, lawn::isInverse);
            }
            Check.due("13: they met", true, () -> lawn.account(7) > 3);
            Check.due("35: all is well", true, lawn::isWell);
        }
    }

    private static void isInverseOfStepsThatWereTakenBack() {
        LawnGardeners lawn = Lawns.made("t0=N;t1=N;m1;h42r;h45l");
        lawn.step(1);
        Check.due("13: nobody met", true, lawn::isInverse);
        lawn.step(1);
        Check.due("13: the hoe 1 waited", false, lawn::isInverse);
        lawn.back();
        Check.due("13: of the step ahead of it", true, lawn::isInverse);
        lawn.back();
        Check.due("13: none left", Check.NOTHING, lawn::isInverse);
        lawn.undo();
        Check.due("13: brought by undo", true, lawn::isInverse);
    }

    private static void isInverseByOtherManners() {
        for (int manner = 1; manner <= 2; manner++) {
            int it = manner;
            Lawns.unchanged("13: hoes that stay by the manner " + manner, false, () -> {
                LawnGardeners lawn = Lawns.facing(it);
                lawn.step(1);
                return lawn;
            }, lawn -> lawn.isInverse());
            LawnGardeners apart = Lawns.made("m" + manner + ";h44u;h00l;s9");
            Check.due("13: hoes that do not meet by the manner " + manner, true, apart::isInverse);
        }
    }

    private static void trailOutOfRange() {
        Lawns.unchanged("14: the first of none", Check.NOTHING, LawnGardeners::new, lawn -> lawn.trail(0));
        for (int wrong : Lawns.outside(0, 11)) {
            Lawns.unchangedOnAll("14: place " + wrong, Check.NOTHING, lawn -> lawn.trail(wrong));
        }
        Lawns.unchanged("14: behind the only one", Check.NOTHING, () -> Lawns.made("h44u;s1"), lawn -> lawn.trail(1));
        Lawns.unchanged("14: a look changes nothing", 40, () -> Lawns.made("h44u;s1"), lawn -> lawn.trail(0));
    }

    private static void trailGrowsAndIsFull() {
        LawnGardeners lawn = Lawns.straight();
        lawn.hoe(3, 0, 1);
        for (int made = 1; made <= 9; made++) {
            int it = made;
            lawn.step(1);
            Check.due("14: length behind step " + made, made, () -> lawn.account(8));
            Check.due("14: the latest", 27 + it - 1, () -> lawn.trail(0));
            Check.due("14: the oldest", 27, () -> lawn.trail(it - 1));
            Check.due("14: behind the oldest", Check.NOTHING, () -> lawn.trail(it));
        }
        lawn.drop(0);
        lawn.hoe(5, 0, 1);
        int[] oldest = {27, 27, 27, 28, 29};
        for (int made = 1; made <= 5; made++) {
            int it = made;
            int length = Math.min(12, 9 + made);
            lawn.step(1);
            Check.due("14: length behind " + made + " more", length, () -> lawn.account(8));
            Check.due("14: the latest behind " + made + " more", 45 + it - 1, () -> lawn.trail(0));
            Check.due("14: the oldest behind " + made + " more", oldest[it - 1], () -> lawn.trail(length - 1));
            Check.due("14: behind the last", Check.NOTHING, () -> lawn.trail(length));
        }
        lawn.back();
        Check.due("14: a step back brings the oldest", 28, () -> lawn.trail(11));
    }

    private static void trailHasEachCellOnce() {
        LawnGardeners wait = Lawns.facing(1);
        wait.step(40);
        Check.due("14: painted again and again", 2, () -> wait.account(8));
        Check.due("14: the latest", 0, () -> wait.trail(0));
        Check.due("14: the other", 8, () -> wait.trail(1));
        LawnGardeners pair = Lawns.made("t0=N;t1=N;h43r;h45l;s2");
        int[] cells = {40, 41, 39};
        Check.due("14: two hoes on a cell paint it one behind the other", 3, () -> pair.account(8));
        for (int place = 0; place < 3; place++) {
            int it = place;
            Check.due("14: that cell once: place " + place, cells[place], () -> pair.trail(it));
        }
        LawnGardeners lawn = Lawns.straight();
        lawn.hoe(0, 0, 1);
        lawn.step(9);
        lawn.drop(0);
        lawn.hoe(1, 0, 1);
        lawn.step(3);
        lawn.drop(0);
        lawn.hoe(0, 4, 2);
        lawn.step(1);
        int[] due = {4, 11, 10, 9, 8, 7, 6, 5, 3, 2, 1, 0};
        for (int place = 0; place < 12; place++) {
            int it = place;
            Check.due("14: full, and painted again: place " + place, due[place], () -> lawn.trail(it));
        }
        lawn.drop(0);
        lawn.hoe(0, 0, 2);
        lawn.step(1);
        Check.due("14: the oldest painted again", 0, () -> lawn.trail(0));
        Check.due("14: the oldest now", 1, () -> lawn.trail(11));
    }

    private static void trailOfSeveralHoes() {
        LawnGardeners lawn = Lawns.made("t0=N;t1=N;h00r;h20r;h40r;h60r;s3");
        int[] due = {56, 38, 20, 2, 55, 37, 19, 1, 54, 36, 18, 0};
        for (int place = 0; place < 12; place++) {
            int it = place;
            Check.due("14: of four hoes, place " + place, due[place], () -> lawn.trail(it));
        }
        Check.due("14: of four hoes, behind the last", Check.NOTHING, () -> lawn.trail(12));
        lawn.step(1);
        Check.due("14: four new ones", 57, () -> lawn.trail(0));
        Check.due("14: four are gone", 1, () -> lawn.trail(11));
    }

    private static void paintedOutOfRange() {
        for (int wrong : Lawns.outside(0, 8)) {
            Lawns.unchangedOnAll("15: row " + wrong, Check.NO_PLACE, lawn -> lawn.painted(wrong, 0));
            Lawns.unchangedOnAll("15: column " + wrong, Check.NO_PLACE, lawn -> lawn.painted(8, wrong));
        }
        Lawns.unchanged("15: a look changes nothing", 2, () -> Lawns.made("h44u;s5"), lawn -> lawn.painted(4, 4));
    }

    private static void paintedByHoesThatStay() {
        LawnGardeners lawn = Lawns.facing(1);
        lawn.step(40);
        lawn.step(40);
        Check.due("15: in each step", 80, () -> lawn.painted(0, 8));
        Check.due("15: over the end", 80, () -> lawn.painted(0, 0));
        Check.due("15: two cells", 2, () -> lawn.account(6));
        lawn.colours(3);
        Check.due("15: other colours do not matter", 80, () -> lawn.painted(0, 0));
        lawn.paint(0, 0, 2);
        Check.due("15: nor does a painted cell", 80, () -> lawn.painted(0, 0));
        lawn.drop(1);
        Check.due("15: nor do dropped hoes", 80, () -> lawn.painted(0, 0));
    }
}
