import java.util.NoSuchElementException;

/** A lawn that is painted by hoes; ../shared/DOC.md promises what each call does. */
public final class LawnGardeners {
    private static final int SIDE = 9;
    private static final int CELLS = 81;
    private static final int HEADINGS = 4;
    private static final int MOST_HOES = 4;
    private static final int FEWEST_COLOURS = 2;
    private static final int MOST_COLOURS = 4;
    private static final int TURNS = 4;
    private static final int MANNERS = 3;
    private static final int MOST_STEPS = 40;
    private static final int MOST_STEPS_BACK = 30;
    private static final int MOST_STEPS_AHEAD = 200;
    private static final int LONGEST_PERIOD = 40;
    private static final int LONGEST_TRAIL = 12;
    private static final int LONGEST_TEXT = 60;
    private static final int MOST_CHANGES = 8;

    private static final int NO_TURN = 0;
    private static final int TURN_RIGHT = 1;
    private static final int TURN_LEFT = 2;
    private static final int TURN_BACK = 3;

    private static final int GO_THROUGH = 0;
    private static final int GO_BACK = 2;

    private static final int ALL_HOES_SET = 1;
    private static final int HOE_ON_CELL = 2;
    private static final int SO_ALREADY = 3;
    private static final int NO_HOES = 4;
    private static final int NO_STEP_TO_TAKE_BACK = 5;

    // What keeps a call, or an order of a text, from being carried out.
    private static final int FINE = 0;
    private static final int NO_PLACE = 1;
    private static final int NO_NUMBER = 2;
    private static final int REFUSED = 3;

    private final Story story = new Story();
    private final Story aheadOfText = new Story();
    private final Story snapshot = new Story();
    private boolean isSaved;
    private final Changes changes = new Changes();
    private final Lawn draft = new Lawn();
    private final FieldFinder finder = new FieldFinder();
    private final int[] turnsAhead = new int[3 * LONGEST_PERIOD];
    private final Text text = new Text();
    private int errorOffset = -1;
    private final char[] line = new char[SIDE];
    private int lineLength;
    private int reason;
    private int detail;

    public LawnGardeners() {
    }

    public int hoe(int row, int column, int heading)
            throws IndexOutOfBoundsException, IllegalArgumentException, UnsupportedOperationException {
        throwFor(faultOfHoe(row, column, heading));
        changes.push(story);
        return setHoe(row, column, heading);
    }

    public int drop(int hoe) throws IndexOutOfBoundsException {
        throwFor(faultOfDrop(hoe));
        changes.push(story);
        return dropHoe(hoe);
    }

    public int colours(int many) throws IllegalArgumentException, UnsupportedOperationException {
        throwFor(faultOfColours(many));
        changes.push(story);
        return setColours(many);
    }

    public int turn(int colour, int turn) throws IllegalArgumentException, UnsupportedOperationException {
        throwFor(faultOfTurn(colour, turn));
        changes.push(story);
        return setTurn(colour, turn);
    }

    public int paint(int row, int column, int colour)
            throws IndexOutOfBoundsException, IllegalArgumentException, UnsupportedOperationException {
        throwFor(faultOfPaint(row, column, colour));
        changes.push(story);
        return setColour(row, column, colour);
    }

    public int manner(int manner) throws IllegalArgumentException, UnsupportedOperationException {
        throwFor(faultOfManner(manner));
        changes.push(story);
        return setManner(manner);
    }

    public int at(int row, int column) throws IndexOutOfBoundsException {
        throwUnlessCell(row, column);
        return story.lawn.colourOf(cellOf(row, column));
    }

    public int hoeOf(int hoe, int what) throws IndexOutOfBoundsException, IllegalArgumentException {
        throwUnlessHoe(hoe);
        switch (what) {
            case 0:
                return story.lawn.cellOfHoe(hoe) / SIDE;
            case 1:
                return story.lawn.cellOfHoe(hoe) % SIDE;
            case 2:
                return story.lawn.headingOfHoe(hoe);
            case 3:
                return story.lawn.goingsOfHoe(hoe);
            case 4:
                return story.lawn.meetingsOfHoe(hoe);
            default:
                throw new IllegalArgumentException("what is not from 0 to 4");
        }
    }

    public int on(int row, int column) throws IndexOutOfBoundsException {
        throwUnlessCell(row, column);
        return story.lawn.hoesOn(cellOf(row, column));
    }

    public int step(int many) throws IllegalArgumentException, UnsupportedOperationException {
        throwFor(faultOfStep(many));
        changes.push(story);
        return makeSteps(many);
    }

    public int back() throws UnsupportedOperationException {
        throwFor(faultOfBack());
        changes.push(story);
        return story.takeStepBack();
    }

    public boolean isInverse() throws NoSuchElementException {
        if (story.stepsBack == 0) {
            throw new NoSuchElementException("no step can be taken back");
        }
        return inverseFits();
    }

    public int trail(int place) throws NoSuchElementException {
        if (place < 0 || place >= story.lawn.trailLength) {
            throw new NoSuchElementException("the trail has no such place");
        }
        return story.lawn.trailAt(place);
    }

    public int painted(int row, int column) throws IndexOutOfBoundsException {
        throwUnlessCell(row, column);
        return story.lawn.paintingsOf(cellOf(row, column));
    }

    public int count(int colour) throws IllegalArgumentException {
        throwUnlessColour(colour);
        return story.lawn.cellsWith(colour);
    }

    public int fields(int colour) throws IllegalArgumentException {
        throwUnlessColour(colour);
        return finder.countByGoing(story.lawn, colour);
    }

    public int fieldsAgain(int colour) throws IllegalArgumentException {
        throwUnlessColour(colour);
        return finder.countByNumbers(story.lawn, colour);
    }

    public int field(int row, int column) throws IndexOutOfBoundsException {
        throwUnlessCell(row, column);
        return finder.sizeOf(story.lawn, cellOf(row, column));
    }

    public int greatest(int colour) throws IllegalArgumentException {
        throwUnlessColour(colour);
        return finder.greatestSize(story.lawn, colour);
    }

    public int willBe(int hoe, int steps) throws IndexOutOfBoundsException, IllegalArgumentException {
        throwUnlessHoe(hoe);
        throwUnlessAhead(steps);
        goAhead(steps);
        return draft.cellOfHoe(hoe);
    }

    public int willMeet(int steps) throws IllegalArgumentException {
        throwUnlessAhead(steps);
        goAhead(steps);
        return draft.allMeetings() - story.lawn.allMeetings();
    }

    public int meetIn() throws NoSuchElementException {
        int step = stepOfFirstMeeting();
        if (step == 0) {
            throw new NoSuchElementException("hoes do not meet in the next 200 steps");
        }
        return step;
    }

    public int isBackIn(int hoe) throws IndexOutOfBoundsException, NoSuchElementException {
        throwUnlessHoe(hoe);
        int step = stepOfReturn(hoe);
        if (step == 0) {
            throw new NoSuchElementException("the hoe is not back within 200 steps");
        }
        return step;
    }

    public int highway(int hoe) throws IndexOutOfBoundsException, NoSuchElementException {
        throwUnlessHoe(hoe);
        int period = periodAhead(hoe);
        if (period == 0) {
            throw new NoSuchElementException("the hoe has no highway");
        }
        return period;
    }

    public int ranked(int place) throws NoSuchElementException {
        if (place < 0 || place >= story.lawn.hoes) {
            throw new NoSuchElementException("there is no such place");
        }
        return story.lawn.hoeRanked(place);
    }

    public int rowLine(int row) throws IndexOutOfBoundsException {
        if (row < 0 || row >= SIDE) {
            throw new IndexOutOfBoundsException("there is no such row");
        }
        lineLength = line.length;
        for (int column = 0; column < line.length; column++) {
            line[column] = story.lawn.signOf(cellOf(row, column));
        }
        return lineLength;
    }

    public int turnLine() {
        lineLength = Math.min(story.lawn.many, line.length);
        for (int colour = 0; colour < lineLength; colour++) {
            line[colour] = letterOfTurn(story.lawn.turnOf(colour));
        }
        return lineLength;
    }

    public char character(int index) throws IndexOutOfBoundsException {
        if (index < 0 || index >= lineLength || index >= line.length) {
            throw new IndexOutOfBoundsException("the line has no such index");
        }
        return line[index];
    }

    public int append(char c) throws IllegalStateException {
        if (text.length >= LONGEST_TEXT) {
            throw new IllegalStateException("the input contains 60 characters");
        }
        return text.put(c);
    }

    public int run() throws IllegalArgumentException, UnsupportedOperationException {
        errorOffset = text.faultOffset();
        if (errorOffset >= 0) {
            text.clear();
            throw new IllegalArgumentException("the text has an error");
        }
        aheadOfText.copyFrom(story);
        int orders = 0;
        int offset = 0;
        int fault = FINE;
        while (fault == FINE && offset < text.length && orders < LONGEST_TEXT) {
            text.readOrder(offset);
            fault = faultOfOrder();
            if (fault == FINE) {
                carryOutOrder();
            }
            offset = text.endOfOrder(offset) + 1;
            orders++;
        }
        text.clear();
        if (fault != FINE) {
            story.copyFrom(aheadOfText);
            throwForText(fault);
        }
        changes.push(aheadOfText);
        return orders;
    }

    public int errorPosition() {
        return errorOffset;
    }

    public int refusal(boolean isDetail) throws NoSuchElementException {
        if (reason == 0) {
            throw new NoSuchElementException("nothing was refused");
        }
        return isDetail ? detail : reason;
    }

    public int account(int what) throws IllegalArgumentException {
        switch (what) {
            case 0:
                return story.lawn.hoes;
            case 1:
                return story.lawn.many;
            case 2:
                return story.lawn.manner;
            case 3:
                return story.lawn.stepsMade;
            case 4:
                return story.stepsBack;
            case 5:
                return story.stepsTakenBack;
            case 6:
                return story.lawn.cellsPainted();
            case 7:
                return story.lawn.allMeetings();
            case 8:
                return story.lawn.trailLength;
            case 9:
                return text.length;
            case 10:
                return changes.length;
            default:
                throw new IllegalArgumentException("what is not from 0 to 10");
        }
    }

    public boolean isWell() {
        for (int colour = 0; colour < MOST_COLOURS; colour++) {
            if (finder.countByGoing(story.lawn, colour) != finder.countByNumbers(story.lawn, colour)) {
                return false;
            }
        }
        for (int cell = 0; cell < CELLS; cell++) {
            if (story.lawn.colourOf(cell) < 0 || story.lawn.colourOf(cell) >= story.lawn.many) {
                return false;
            }
        }
        return story.lawn.manner != GO_THROUGH || story.stepsBack == 0 || inverseFits();
    }

    public double meanColour() {
        return (double) story.lawn.sumOfColours() / (double) CELLS;
    }

    public float paintedShare() {
        return (float) story.lawn.cellsPainted() / (float) CELLS;
    }

    public int undo() throws IllegalStateException {
        if (changes.length == 0) {
            throw new IllegalStateException("no change can be undone");
        }
        return changes.popInto(story);
    }

    public int save() {
        snapshot.copyFrom(story);
        isSaved = true;
        return story.lawn.hoes;
    }

    public int restore() throws IllegalStateException {
        if (!isSaved) {
            throw new IllegalStateException("there is no snapshot");
        }
        story.copyFrom(snapshot);
        changes.forget();
        return story.lawn.hoes;
    }

    private static boolean isCell(int row, int column) {
        return row >= 0 && row < SIDE && column >= 0 && column < SIDE;
    }

    private static int cellOf(int row, int column) {
        return SIDE * row + column;
    }

    private static int cellBeside(int cell, int heading) {
        int row = cell / SIDE;
        int column = cell % SIDE;
        switch (heading) {
            case 0:
                return cellOf(row > 0 ? row - 1 : SIDE - 1, column);
            case 1:
                return cellOf(row, column < SIDE - 1 ? column + 1 : 0);
            case 2:
                return cellOf(row < SIDE - 1 ? row + 1 : 0, column);
            default:
                return cellOf(row, column > 0 ? column - 1 : SIDE - 1);
        }
    }

    private static int quartersOfTurn(int turn) {
        switch (turn) {
            case TURN_RIGHT:
                return 1;
            case TURN_LEFT:
                return 3;
            case TURN_BACK:
                return 2;
            default:
                return 0;
        }
    }

    private static char letterOfTurn(int turn) {
        switch (turn) {
            case TURN_RIGHT:
                return 'R';
            case TURN_LEFT:
                return 'L';
            case TURN_BACK:
                return 'U';
            default:
                return 'N';
        }
    }

    private static int turnOfLetter(int letter) {
        switch (letter) {
            case 'N':
                return NO_TURN;
            case 'R':
                return TURN_RIGHT;
            case 'L':
                return TURN_LEFT;
            case 'U':
                return TURN_BACK;
            default:
                return -1;
        }
    }

    private static int headingOfLetter(int letter) {
        switch (letter) {
            case 'u':
                return 0;
            case 'r':
                return 1;
            case 'd':
                return 2;
            case 'l':
                return 3;
            default:
                return -1;
        }
    }

    private static void throwFor(int fault) {
        if (fault == NO_PLACE) {
            throw new IndexOutOfBoundsException("there is no such cell or hoe");
        }
        throwForText(fault);
    }

    private static void throwForText(int fault) {
        if (fault == REFUSED) {
            throw new UnsupportedOperationException("refused: the reason is kept");
        }
        if (fault != FINE) {
            throw new IllegalArgumentException("a number is out of range");
        }
    }

    private static void throwUnlessCell(int row, int column) {
        if (!isCell(row, column)) {
            throw new IndexOutOfBoundsException("there is no such cell");
        }
    }

    private void throwUnlessHoe(int hoe) {
        if (!story.lawn.isHoe(hoe)) {
            throw new IndexOutOfBoundsException("there is no such hoe");
        }
    }

    private static void throwUnlessColour(int colour) {
        if (colour < 0 || colour >= MOST_COLOURS) {
            throw new IllegalArgumentException("the colour is not from 0 to 3");
        }
    }

    private static void throwUnlessAhead(int steps) {
        if (steps < 0 || steps > MOST_STEPS_AHEAD) {
            throw new IllegalArgumentException("the number of steps is not from 0 to 200");
        }
    }

    private int refuse(int why, int number) {
        reason = why;
        detail = number;
        return REFUSED;
    }

    private int faultOfHoe(int row, int column, int heading) {
        if (!isCell(row, column)) {
            return NO_PLACE;
        }
        if (heading < 0 || heading >= HEADINGS) {
            return NO_NUMBER;
        }
        if (story.lawn.hoes >= MOST_HOES) {
            return refuse(ALL_HOES_SET, story.lawn.hoes);
        }
        int other = story.lawn.lowestHoeOn(cellOf(row, column));
        return other >= 0 ? refuse(HOE_ON_CELL, other) : FINE;
    }

    private int setHoe(int row, int column, int heading) {
        story.forgetSteps();
        return story.lawn.addHoe(cellOf(row, column), heading);
    }

    private int faultOfDrop(int hoe) {
        return story.lawn.isHoe(hoe) ? FINE : NO_PLACE;
    }

    private int dropHoe(int hoe) {
        story.forgetSteps();
        return story.lawn.removeHoe(hoe);
    }

    private int faultOfColours(int many) {
        if (many < FEWEST_COLOURS || many > MOST_COLOURS) {
            return NO_NUMBER;
        }
        return many == story.lawn.many ? refuse(SO_ALREADY, many) : FINE;
    }

    private int setColours(int many) {
        story.forgetSteps();
        return story.lawn.changeMany(many);
    }

    private int faultOfTurn(int colour, int turn) {
        if (colour < 0 || colour >= MOST_COLOURS || turn < 0 || turn >= TURNS) {
            return NO_NUMBER;
        }
        return turn == story.lawn.turnOf(colour) ? refuse(SO_ALREADY, turn) : FINE;
    }

    private int setTurn(int colour, int turn) {
        story.forgetSteps();
        return story.lawn.changeTurn(colour, turn);
    }

    private int faultOfPaint(int row, int column, int colour) {
        if (!isCell(row, column)) {
            return NO_PLACE;
        }
        if (colour < 0 || colour >= story.lawn.many) {
            return NO_NUMBER;
        }
        return colour == story.lawn.colourOf(cellOf(row, column)) ? refuse(SO_ALREADY, colour) : FINE;
    }

    private int setColour(int row, int column, int colour) {
        story.forgetSteps();
        return story.lawn.changeColour(cellOf(row, column), colour);
    }

    private int faultOfManner(int manner) {
        if (manner < 0 || manner >= MANNERS) {
            return NO_NUMBER;
        }
        return manner == story.lawn.manner ? refuse(SO_ALREADY, manner) : FINE;
    }

    private int setManner(int manner) {
        story.forgetSteps();
        int before = story.lawn.manner;
        story.lawn.manner = manner;
        return before;
    }

    private int faultOfStep(int many) {
        if (many < 1 || many > MOST_STEPS) {
            return NO_NUMBER;
        }
        return story.lawn.hoes == 0 ? refuse(NO_HOES, story.lawn.stepsMade) : FINE;
    }

    private int makeSteps(int many) {
        int before = story.lawn.allGoings();
        for (int made = 0; made < many; made++) {
            story.keepLawn();
            story.lawn.moveAll();
        }
        return story.lawn.allGoings() - before;
    }

    private int faultOfBack() {
        return story.stepsBack == 0 ? refuse(NO_STEP_TO_TAKE_BACK, story.stepsTakenBack) : FINE;
    }

    private boolean inverseFits() {
        Lawn before = story.aheadOfLatestStep();
        if (before == null) {
            return false;
        }
        draft.copyFrom(story.lawn);
        draft.makeInverse();
        return draft.looksLike(before);
    }

    private void goAhead(int steps) {
        draft.copyFrom(story.lawn);
        for (int made = 0; made < steps; made++) {
            draft.moveAll();
        }
    }

    private int stepOfFirstMeeting() {
        int before = story.lawn.allMeetings();
        draft.copyFrom(story.lawn);
        for (int step = 1; step <= MOST_STEPS_AHEAD; step++) {
            draft.moveAll();
            if (draft.allMeetings() != before) {
                return step;
            }
        }
        return 0;
    }

    private int stepOfReturn(int hoe) {
        int cell = story.lawn.cellOfHoe(hoe);
        draft.copyFrom(story.lawn);
        for (int step = 1; step <= MOST_STEPS_AHEAD; step++) {
            draft.moveAll();
            if (draft.cellOfHoe(hoe) == cell) {
                return step;
            }
        }
        return 0;
    }

    private int periodAhead(int hoe) {
        draft.copyFrom(story.lawn);
        for (int step = 0; step < turnsAhead.length; step++) {
            draft.moveAll();
            turnsAhead[step] = draft.latestTurnOfHoe(hoe);
        }
        for (int period = 1; period <= LONGEST_PERIOD; period++) {
            if (isPeriodAhead(period)) {
                return period;
            }
        }
        return 0;
    }

    private boolean isPeriodAhead(int period) {
        for (int step = 0; step < 2 * period; step++) {
            int later = step + period;
            if (step >= turnsAhead.length || later < 0 || later >= turnsAhead.length) {
                return false;
            }
            if (turnsAhead[step] != turnsAhead[later]) {
                return false;
            }
        }
        return true;
    }

    private int faultOfOrder() {
        switch (text.letter) {
            case 'h':
                return faultOfHoe(text.first, text.second, text.last);
            case 'x':
                return faultOfDrop(text.first);
            case 'p':
                return faultOfPaint(text.first, text.second, text.last);
            case 't':
                return faultOfTurn(text.first, text.last);
            case 'k':
                return faultOfColours(text.first);
            case 'm':
                return faultOfManner(text.first);
            case 's':
                return faultOfStep(text.first);
            default:
                return faultOfBack();
        }
    }

    private void carryOutOrder() {
        switch (text.letter) {
            case 'h':
                setHoe(text.first, text.second, text.last);
                break;
            case 'x':
                dropHoe(text.first);
                break;
            case 'p':
                setColour(text.first, text.second, text.last);
                break;
            case 't':
                setTurn(text.first, text.last);
                break;
            case 'k':
                setColours(text.first);
                break;
            case 'm':
                setManner(text.first);
                break;
            case 's':
                makeSteps(text.first);
                break;
            default:
                story.takeStepBack();
        }
    }

    /** The lawn and its hoes at one moment: all that taking a step back brings again. */
    private static final class Lawn {
        private final int[] colours = new int[CELLS];
        private final int[] paintings = new int[CELLS];
        private final int[] turns = {TURN_RIGHT, TURN_LEFT, NO_TURN, NO_TURN};
        private final int[] trailCells = new int[LONGEST_TRAIL];
        private final int[] hoeCells = new int[MOST_HOES];
        private final int[] hoeHeadings = new int[MOST_HOES];
        private final int[] hoeGoings = new int[MOST_HOES];
        private final int[] hoeMeetings = new int[MOST_HOES];
        // Each step writes the turns that its hoes take before they are read: no copy needs them.
        private final int[] latestTurns = new int[MOST_HOES];
        private int trailLength;
        private int hoes;
        private int many = FEWEST_COLOURS;
        private int manner = GO_THROUGH;
        private int stepsMade;

        void copyFrom(Lawn other) {
            if (other == null) {
                return;
            }
            System.arraycopy(other.colours, 0, colours, 0, CELLS);
            System.arraycopy(other.paintings, 0, paintings, 0, CELLS);
            System.arraycopy(other.turns, 0, turns, 0, MOST_COLOURS);
            System.arraycopy(other.trailCells, 0, trailCells, 0, LONGEST_TRAIL);
            System.arraycopy(other.hoeCells, 0, hoeCells, 0, MOST_HOES);
            System.arraycopy(other.hoeHeadings, 0, hoeHeadings, 0, MOST_HOES);
            System.arraycopy(other.hoeGoings, 0, hoeGoings, 0, MOST_HOES);
            System.arraycopy(other.hoeMeetings, 0, hoeMeetings, 0, MOST_HOES);
            trailLength = other.trailLength;
            hoes = other.hoes;
            many = other.many;
            manner = other.manner;
            stepsMade = other.stepsMade;
        }

        boolean isHoe(int hoe) {
            return hoe >= 0 && hoe < hoes && hoe < MOST_HOES;
        }

        int cellOfHoe(int hoe) {
            return isHoe(hoe) ? hoeCells[hoe] : 0;
        }

        int headingOfHoe(int hoe) {
            return isHoe(hoe) ? hoeHeadings[hoe] : 0;
        }

        int goingsOfHoe(int hoe) {
            return isHoe(hoe) ? hoeGoings[hoe] : 0;
        }

        int meetingsOfHoe(int hoe) {
            return isHoe(hoe) ? hoeMeetings[hoe] : 0;
        }

        int latestTurnOfHoe(int hoe) {
            return isHoe(hoe) ? latestTurns[hoe] : 0;
        }

        int colourOf(int cell) {
            return cell >= 0 && cell < CELLS ? colours[cell] : 0;
        }

        int paintingsOf(int cell) {
            return cell >= 0 && cell < CELLS ? paintings[cell] : 0;
        }

        int turnOf(int colour) {
            return colour >= 0 && colour < MOST_COLOURS ? turns[colour] : NO_TURN;
        }

        int trailAt(int place) {
            return place >= 0 && place < LONGEST_TRAIL ? trailCells[place] : 0;
        }

        int addHoe(int cell, int heading) {
            int hoe = hoes;
            if (hoe < 0 || hoe >= MOST_HOES) {
                return hoe;
            }
            hoeCells[hoe] = cell;
            hoeHeadings[hoe] = heading;
            hoeGoings[hoe] = 0;
            hoeMeetings[hoe] = 0;
            hoes++;
            return hoe;
        }

        int removeHoe(int hoe) {
            if (!isHoe(hoe)) {
                return hoes;
            }
            for (int later = hoe + 1; later < MOST_HOES; later++) {
                hoeCells[later - 1] = hoeCells[later];
                hoeHeadings[later - 1] = hoeHeadings[later];
                hoeGoings[later - 1] = hoeGoings[later];
                hoeMeetings[later - 1] = hoeMeetings[later];
            }
            hoes--;
            return hoes;
        }

        int changeMany(int number) {
            many = number;
            int cleared = 0;
            for (int cell = 0; cell < CELLS; cell++) {
                if (colours[cell] >= number) {
                    colours[cell] = 0;
                    cleared++;
                }
            }
            return cleared;
        }

        int changeTurn(int colour, int turn) {
            int before = turnOf(colour);
            if (colour >= 0 && colour < MOST_COLOURS) {
                turns[colour] = turn;
            }
            return before;
        }

        int changeColour(int cell, int colour) {
            int before = colourOf(cell);
            if (cell >= 0 && cell < CELLS) {
                colours[cell] = colour;
            }
            return before;
        }

        int hoesOn(int cell) {
            int found = 0;
            for (int hoe = 0; hoe < MOST_HOES; hoe++) {
                if (hoe < hoes && hoeCells[hoe] == cell) {
                    found++;
                }
            }
            return found;
        }

        int lowestHoeOn(int cell) {
            for (int hoe = 0; hoe < MOST_HOES; hoe++) {
                if (hoe < hoes && hoeCells[hoe] == cell) {
                    return hoe;
                }
            }
            return -1;
        }

        void moveAll() {
            for (int hoe = 0; hoe < hoes; hoe++) {
                moveHoe(hoe);
            }
            stepsMade++;
        }

        private void moveHoe(int hoe) {
            if (!isHoe(hoe)) {
                return;
            }
            int cell = hoeCells[hoe];
            latestTurns[hoe] = turnOf(colourOf(cell));
            hoeHeadings[hoe] = (hoeHeadings[hoe] + quartersOfTurn(latestTurns[hoe])) & 3;
            paintByHoe(cell);
            putOnTrail(cell);
            int next = cellBeside(cell, hoeHeadings[hoe]);
            boolean meets = hoesOn(next) > 0;
            if (meets) {
                hoeMeetings[hoe]++;
            }
            if (!meets || manner == GO_THROUGH) {
                hoeCells[hoe] = next;
                hoeGoings[hoe]++;
            } else if (manner == GO_BACK) {
                turnBackOn(next);
                hoeHeadings[hoe] = (hoeHeadings[hoe] + 2) & 3;
            }
        }

        private void turnBackOn(int cell) {
            for (int hoe = 0; hoe < MOST_HOES; hoe++) {
                if (hoe < hoes && hoeCells[hoe] == cell) {
                    hoeHeadings[hoe] = (hoeHeadings[hoe] + 2) & 3;
                }
            }
        }

        private void paintByHoe(int cell) {
            if (cell < 0 || cell >= CELLS) {
                return;
            }
            colours[cell] = colours[cell] + 1 < many ? colours[cell] + 1 : 0;
            paintings[cell]++;
        }

        private void putOnTrail(int cell) {
            int place = 0;
            while (place < trailLength && place < LONGEST_TRAIL && trailCells[place] != cell) {
                place++;
            }
            if (place >= trailLength) {
                trailLength = Math.min(trailLength + 1, LONGEST_TRAIL);
            }
            for (int behind = Math.min(place, LONGEST_TRAIL - 1); behind > 0; behind--) {
                trailCells[behind] = trailCells[behind - 1];
            }
            trailCells[0] = cell;
        }

        /** Undoes a step as if no hoe had stayed, which need not be so by the manners 1 and 2. */
        void makeInverse() {
            for (int hoe = MOST_HOES - 1; hoe >= 0; hoe--) {
                if (hoe < hoes) {
                    int cell = cellBeside(hoeCells[hoe], (hoeHeadings[hoe] + 2) & 3);
                    int colour = colourOf(cell) > 0 ? colourOf(cell) - 1 : many - 1;
                    changeColour(cell, colour);
                    hoeCells[hoe] = cell;
                    hoeHeadings[hoe] = (hoeHeadings[hoe] - quartersOfTurn(turnOf(colour))) & 3;
                }
            }
        }

        boolean looksLike(Lawn other) {
            if (other == null || hoes != other.hoes) {
                return false;
            }
            for (int cell = 0; cell < CELLS; cell++) {
                if (colours[cell] != other.colours[cell]) {
                    return false;
                }
            }
            for (int hoe = 0; hoe < hoes; hoe++) {
                if (cellOfHoe(hoe) != other.cellOfHoe(hoe) || headingOfHoe(hoe) != other.headingOfHoe(hoe)) {
                    return false;
                }
            }
            return true;
        }

        int allGoings() {
            int sum = 0;
            for (int hoe = 0; hoe < hoes; hoe++) {
                sum += goingsOfHoe(hoe);
            }
            return sum;
        }

        int allMeetings() {
            int sum = 0;
            for (int hoe = 0; hoe < hoes; hoe++) {
                sum += meetingsOfHoe(hoe);
            }
            return sum;
        }

        int hoeRanked(int place) {
            for (int hoe = 0; hoe < hoes; hoe++) {
                if (rankOfHoe(hoe) == place) {
                    return hoe;
                }
            }
            return 0;
        }

        private int rankOfHoe(int hoe) {
            int ahead = 0;
            for (int other = 0; other < hoes; other++) {
                int more = goingsOfHoe(other) - goingsOfHoe(hoe);
                if (more > 0 || (more == 0 && other < hoe)) {
                    ahead++;
                }
            }
            return ahead;
        }

        int cellsWith(int colour) {
            int found = 0;
            for (int cell = 0; cell < CELLS; cell++) {
                if (colours[cell] == colour) {
                    found++;
                }
            }
            return found;
        }

        int cellsPainted() {
            int found = 0;
            for (int cell = 0; cell < CELLS; cell++) {
                if (paintings[cell] > 0) {
                    found++;
                }
            }
            return found;
        }

        int sumOfColours() {
            int sum = 0;
            for (int cell = 0; cell < CELLS; cell++) {
                sum += colours[cell];
            }
            return sum;
        }

        char signOf(int cell) {
            int hoe = lowestHoeOn(cell);
            return hoe >= 0 ? (char) ('A' + hoe) : (char) ('0' + colourOf(cell));
        }
    }

    /** A lawn with the steps that can be taken back: all that changes can change. */
    private static final class Story {
        private final Lawn lawn = new Lawn();
        private final Lawn[] past = new Lawn[MOST_STEPS_BACK];
        private int oldest;
        private int stepsBack;
        private int stepsTakenBack;

        Story() {
            for (int place = 0; place < past.length; place++) {
                past[place] = new Lawn();
            }
        }

        void copyFrom(Story other) {
            if (other == null) {
                return;
            }
            lawn.copyFrom(other.lawn);
            oldest = 0;
            stepsBack = other.stepsBack;
            stepsTakenBack = other.stepsTakenBack;
            for (int place = 0; place < stepsBack; place++) {
                Lawn mine = pastAt(place);
                if (mine != null) {
                    mine.copyFrom(other.pastAt(place));
                }
            }
        }

        private Lawn pastAt(int place) {
            int slot = Math.floorMod(oldest + place, MOST_STEPS_BACK);
            return slot >= 0 && slot < past.length ? past[slot] : null;
        }

        /** Null if no step can be taken back. */
        Lawn aheadOfLatestStep() {
            return stepsBack > 0 ? pastAt(stepsBack - 1) : null;
        }

        void keepLawn() {
            if (stepsBack >= MOST_STEPS_BACK) {
                oldest = Math.floorMod(oldest + 1, MOST_STEPS_BACK);
                stepsBack--;
            }
            Lawn kept = pastAt(stepsBack);
            if (kept != null) {
                kept.copyFrom(lawn);
                stepsBack++;
            }
        }

        int takeStepBack() {
            Lawn before = aheadOfLatestStep();
            if (before != null) {
                lawn.copyFrom(before);
                stepsBack--;
                stepsTakenBack++;
            }
            return stepsBack;
        }

        void forgetSteps() {
            stepsBack = 0;
        }
    }

    /** The stories ahead of the latest changes, in slots that are used again. */
    private static final class Changes {
        private final Story[] slots = new Story[MOST_CHANGES];
        private int oldest;
        private int length;

        Changes() {
            for (int slot = 0; slot < slots.length; slot++) {
                slots[slot] = new Story();
            }
        }

        private Story storyAt(int place) {
            int slot = Math.floorMod(oldest + place, MOST_CHANGES);
            return slot >= 0 && slot < slots.length ? slots[slot] : null;
        }

        void push(Story before) {
            if (length >= MOST_CHANGES) {
                oldest = Math.floorMod(oldest + 1, MOST_CHANGES);
                length--;
            }
            Story kept = storyAt(length);
            if (kept != null) {
                kept.copyFrom(before);
                length++;
            }
        }

        int popInto(Story story) {
            if (length > 0 && story != null) {
                length--;
                story.copyFrom(storyAt(length));
            }
            return length;
        }

        void forget() {
            length = 0;
        }
    }

    /** Finds the fields of a lawn in two ways, in rows that are used again. */
    private static final class FieldFinder {
        private final boolean[] isSeen = new boolean[CELLS];
        private final int[] found = new int[CELLS];
        private int foundLength;
        private final int[] numbers = new int[CELLS];

        private void forgetSeen() {
            for (int cell = 0; cell < CELLS; cell++) {
                isSeen[cell] = false;
            }
        }

        int countByGoing(Lawn lawn, int colour) {
            int fields = 0;
            forgetSeen();
            for (int cell = 0; cell < CELLS; cell++) {
                if (lawn.colourOf(cell) == colour && sizeUnlessSeen(lawn, cell) > 0) {
                    fields++;
                }
            }
            return fields;
        }

        int greatestSize(Lawn lawn, int colour) {
            int size = 0;
            forgetSeen();
            for (int cell = 0; cell < CELLS; cell++) {
                if (lawn.colourOf(cell) == colour) {
                    size = Math.max(size, sizeUnlessSeen(lawn, cell));
                }
            }
            return size;
        }

        int sizeOf(Lawn lawn, int cell) {
            forgetSeen();
            return sizeUnlessSeen(lawn, cell);
        }

        private int sizeUnlessSeen(Lawn lawn, int start) {
            foundLength = 0;
            find(start);
            for (int next = 0; next < foundLength && next < CELLS; next++) {
                for (int heading = 0; heading < HEADINGS; heading++) {
                    int cell = cellBeside(found[next], heading);
                    if (lawn.colourOf(cell) == lawn.colourOf(start)) {
                        find(cell);
                    }
                }
            }
            return foundLength;
        }

        private void find(int cell) {
            if (cell < 0 || cell >= CELLS || foundLength < 0 || foundLength >= CELLS || isSeen[cell]) {
                return;
            }
            isSeen[cell] = true;
            found[foundLength] = cell;
            foundLength++;
        }

        int countByNumbers(Lawn lawn, int colour) {
            for (int cell = 0; cell < CELLS; cell++) {
                numbers[cell] = cell;
            }
            boolean changes = true;
            // A number goes on by a cell at least in each round, so that CELLS rounds are enough.
            for (int round = 0; changes && round <= CELLS; round++) {
                changes = false;
                for (int cell = 0; cell < CELLS; cell++) {
                    int least = leastNumber(lawn, cell);
                    changes = changes || least != numbers[cell];
                    numbers[cell] = least;
                }
            }
            int fields = 0;
            for (int cell = 0; cell < CELLS; cell++) {
                if (lawn.colourOf(cell) == colour && numbers[cell] == cell) {
                    fields++;
                }
            }
            return fields;
        }

        private int leastNumber(Lawn lawn, int cell) {
            int least = cell >= 0 && cell < CELLS ? numbers[cell] : 0;
            for (int heading = 0; heading < HEADINGS; heading++) {
                int other = cellBeside(cell, heading);
                if (other >= 0 && other < CELLS && lawn.colourOf(other) == lawn.colourOf(cell)) {
                    least = Math.min(least, numbers[other]);
                }
            }
            return least;
        }
    }

    /** The input, and what of it is an order. */
    private static final class Text {
        private static final char NOTHING = 'z';
        private static final char DIGIT = '0';
        private static final char HEADING = 'u';
        private static final char TURN = 'N';

        private final char[] signs = new char[LONGEST_TEXT];
        private int length;

        // The order that was read latest; what it does not have is -1.
        private int letter = -1;
        private int first = -1;
        private int second = -1;
        private int last = -1;

        int put(char c) {
            if (length >= 0 && length < LONGEST_TEXT) {
                signs[length] = c;
                length++;
            }
            return length;
        }

        void clear() {
            length = 0;
        }

        /** The sign's number, -1 where the text has none. */
        int signAt(int offset) {
            return offset >= 0 && offset < length && offset < LONGEST_TEXT ? signs[offset] : -1;
        }

        /** -1 where the text has no digit. */
        int digitAt(int offset) {
            int sign = signAt(offset);
            return sign >= '0' && sign <= '9' ? sign - '0' : -1;
        }

        void readOrder(int offset) {
            letter = signAt(offset);
            first = digitAt(offset + 1);
            second = digitAt(offset + 2);
            switch (letter) {
                case 'h':
                    last = headingOfLetter(signAt(offset + 3));
                    break;
                case 'p':
                    last = digitAt(offset + 4);
                    break;
                case 't':
                    last = turnOfLetter(signAt(offset + 3));
                    break;
                case 's':
                    first = second < 0 ? first : 10 * first + second;
                    break;
                default:
                    last = -1;
            }
        }

        /** -1 if the text has no error. */
        int faultOffset() {
            int offset = 0;
            for (int order = 0; order <= LONGEST_TEXT; order++) {
                int end = endOfOrder(offset);
                if (end < 0) {
                    return -1 - end;
                }
                if (end >= length) {
                    return -1;
                }
                if (signAt(end) != ';') {
                    return end;
                }
                offset = end + 1;
            }
            return -1;
        }

        /** The offset behind the order that begins there; if it cannot be one, -1 less the offset of its error. */
        int endOfOrder(int start) {
            String shape = shapeOf(signAt(start));
            for (int place = 0; place < shape.length(); place++) {
                if (!fits(shape.charAt(place), start + place)) {
                    return -1 - (start + place);
                }
            }
            int end = start + shape.length();
            boolean isLonger = signAt(start) == 's' && digitAt(end) >= 0;
            return isLonger ? end + 1 : end;
        }

        private static String shapeOf(int letter) {
            switch (letter) {
                case 'h':
                    return "h00u";
                case 'x':
                    return "x0";
                case 'p':
                    return "p00=0";
                case 't':
                    return "t0=N";
                case 'k':
                    return "k0";
                case 'm':
                    return "m0";
                case 's':
                    return "s0";
                case 'b':
                    return "b";
                default:
                    return "z";
            }
        }

        private boolean fits(char kind, int offset) {
            int sign = signAt(offset);
            switch ((int) kind) {
                case NOTHING:
                    return false;
                case DIGIT:
                    return digitAt(offset) >= 0;
                case HEADING:
                    return headingOfLetter(sign) >= 0;
                case TURN:
                    return turnOfLetter(sign) >= 0;
                default:
                    return sign == kind;
            }
        }
    }
}
