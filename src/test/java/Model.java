import java.util.ArrayList;
import java.util.HashSet;
import java.util.List;
import java.util.NoSuchElementException;
import java.util.Set;
import java.util.regex.Matcher;
import java.util.regex.Pattern;

/** The document once more, as plainly as can be: each state is copied whole, nothing is used again. */
final class Model {
    private static final int[] DOWN = {-1, 0, 1, 0};
    private static final int[] RIGHT = {0, 1, 0, -1};
    private static final int[] QUARTERS = {0, 1, -1, 2};
    private static final Pattern TEXT = Pattern.compile(
        "(?:h\\d\\d[urdl]|x\\d|p\\d\\d=\\d|t\\d=[NRLU]|k\\d|m\\d|s\\d\\d?|b)"
        + "(?:;(?:h\\d\\d[urdl]|x\\d|p\\d\\d=\\d|t\\d=[NRLU]|k\\d|m\\d|s\\d\\d?|b))*");

    private static final class Hoe {
        int row, column, heading, went, met;
        int turned = -1;

        Hoe copy() {
            Hoe hoe = new Hoe();
            hoe.row = row;
            hoe.column = column;
            hoe.heading = heading;
            hoe.went = went;
            hoe.met = met;
            return hoe;
        }
    }

    private static final class State {
        int[][] colour = new int[9][9];
        int[][] painted = new int[9][9];
        int[] turns = {1, 2, 0, 0};
        int many = 2;
        int manner = 0;
        int made = 0;
        int taken = 0;
        List<Hoe> hoes = new ArrayList<>();
        List<Integer> trail = new ArrayList<>();
        List<State> past = new ArrayList<>();

        State copy() {
            State state = copyWithoutPast();
            state.past = new ArrayList<>(past);
            return state;
        }

        State copyWithoutPast() {
            State state = new State();
            for (int row = 0; row < 9; row++) {
                state.colour[row] = colour[row].clone();
                state.painted[row] = painted[row].clone();
            }
            state.turns = turns.clone();
            state.many = many;
            state.manner = manner;
            state.made = made;
            state.taken = taken;
            for (Hoe hoe : hoes) {
                state.hoes.add(hoe.copy());
            }
            state.trail = new ArrayList<>(trail);
            return state;
        }

        List<Hoe> hoesOn(int row, int column) {
            List<Hoe> found = new ArrayList<>();
            for (Hoe hoe : hoes) {
                if (hoe.row == row && hoe.column == column) {
                    found.add(hoe);
                }
            }
            return found;
        }

        void step() {
            past.add(copyWithoutPast());
            if (past.size() > 30) {
                past.remove(0);
            }
            for (Hoe hoe : hoes) {
                move(hoe);
            }
            made++;
        }

        private void move(Hoe hoe) {
            hoe.turned = turns[colour[hoe.row][hoe.column]];
            hoe.heading = Math.floorMod(hoe.heading + QUARTERS[hoe.turned], 4);
            colour[hoe.row][hoe.column] = (colour[hoe.row][hoe.column] + 1) % many;
            painted[hoe.row][hoe.column]++;
            trail.remove((Integer) (9 * hoe.row + hoe.column));
            trail.add(0, 9 * hoe.row + hoe.column);
            while (trail.size() > 12) {
                trail.remove(12);
            }
            int row = (hoe.row + DOWN[hoe.heading] + 9) % 9;
            int column = (hoe.column + RIGHT[hoe.heading] + 9) % 9;
            List<Hoe> there = hoesOn(row, column);
            if (!there.isEmpty()) {
                hoe.met++;
                if (manner == 2) {
                    there.add(hoe);
                    for (Hoe other : there) {
                        other.heading = (other.heading + 2) % 4;
                    }
                }
                if (manner != 0) {
                    return;
                }
            }
            hoe.row = row;
            hoe.column = column;
            hoe.went++;
        }

        String picture() {
            StringBuilder text = new StringBuilder();
            for (int[] row : colour) {
                text.append(java.util.Arrays.toString(row));
            }
            for (Hoe hoe : hoes) {
                text.append(hoe.row).append(hoe.column).append(hoe.heading).append(' ');
            }
            return text.toString();
        }

        void inverse() {
            for (int i = hoes.size() - 1; i >= 0; i--) {
                Hoe hoe = hoes.get(i);
                hoe.row = (hoe.row - DOWN[hoe.heading] + 9) % 9;
                hoe.column = (hoe.column - RIGHT[hoe.heading] + 9) % 9;
                int ahead = (colour[hoe.row][hoe.column] + many - 1) % many;
                colour[hoe.row][hoe.column] = ahead;
                hoe.heading = Math.floorMod(hoe.heading - QUARTERS[turns[ahead]], 4);
            }
        }

        int met() {
            int sum = 0;
            for (Hoe hoe : hoes) {
                sum += hoe.met;
            }
            return sum;
        }

        int went() {
            int sum = 0;
            for (Hoe hoe : hoes) {
                sum += hoe.went;
            }
            return sum;
        }

        /** For each colour the sizes of its fields. */
        List<List<Integer>> fields() {
            List<List<Integer>> sizes = new ArrayList<>();
            for (int c = 0; c < 4; c++) {
                sizes.add(new ArrayList<>());
            }
            Set<Integer> seen = new HashSet<>();
            for (int cell = 0; cell < 81; cell++) {
                int before = seen.size();
                gather(cell / 9, cell % 9, colour[cell / 9][cell % 9], seen);
                if (seen.size() > before) {
                    sizes.get(colour[cell / 9][cell % 9]).add(seen.size() - before);
                }
            }
            return sizes;
        }

        void gather(int row, int column, int of, Set<Integer> seen) {
            if (colour[row][column] != of || !seen.add(9 * row + column)) {
                return;
            }
            for (int heading = 0; heading < 4; heading++) {
                gather((row + DOWN[heading] + 9) % 9, (column + RIGHT[heading] + 9) % 9, of, seen);
            }
        }
    }

    private State now = new State();
    private State saved = null;
    private List<State> undos = new ArrayList<>();
    private String input = "";
    private String line = "";
    private int error = -1;
    private int reason = 0;
    private int detail = 0;

    private void remember(State before) {
        undos.add(before);
        if (undos.size() > 8) {
            undos.remove(0);
        }
    }

    private UnsupportedOperationException refused(int why, int number) {
        reason = why;
        detail = number;
        return new UnsupportedOperationException();
    }

    private static void cell(int row, int column) {
        if (row < 0 || row > 8 || column < 0 || column > 8) {
            throw new IndexOutOfBoundsException();
        }
    }

    private static void range(int number, int least, int most) {
        if (number < least || number > most) {
            throw new IllegalArgumentException();
        }
    }

    private Hoe theHoe(int hoe) {
        if (hoe < 0 || hoe >= now.hoes.size()) {
            throw new IndexOutOfBoundsException();
        }
        return now.hoes.get(hoe);
    }

    private static void thereIs(boolean is) {
        if (!is) {
            throw new NoSuchElementException();
        }
    }

    private int change(String order, int a, int b, int c) {
        State before = now.copy();
        int answer = carryOut(order, a, b, c);
        remember(before);
        return answer;
    }

    /** Throws ahead of any change of the state. */
    private int carryOut(String order, int a, int b, int c) {
        int answer;
        switch (order) {
            case "h":
                cell(a, b);
                range(c, 0, 3);
                if (now.hoes.size() == 4) {
                    throw refused(1, 4);
                }
                if (!now.hoesOn(a, b).isEmpty()) {
                    throw refused(2, now.hoes.indexOf(now.hoesOn(a, b).get(0)));
                }
                Hoe hoe = new Hoe();
                hoe.row = a;
                hoe.column = b;
                hoe.heading = c;
                now.hoes.add(hoe);
                answer = now.hoes.size() - 1;
                break;
            case "x":
                now.hoes.remove(theHoe(a));
                answer = now.hoes.size();
                break;
            case "k":
                range(a, 2, 4);
                if (now.many == a) {
                    throw refused(3, a);
                }
                now.many = a;
                answer = 0;
                for (int[] row : now.colour) {
                    for (int i = 0; i < 9; i++) {
                        answer += row[i] >= a ? 1 : 0;
                        row[i] = row[i] >= a ? 0 : row[i];
                    }
                }
                break;
            case "t":
                range(a, 0, 3);
                range(b, 0, 3);
                if (now.turns[a] == b) {
                    throw refused(3, b);
                }
                answer = now.turns[a];
                now.turns[a] = b;
                break;
            case "p":
                cell(a, b);
                range(c, 0, now.many - 1);
                if (now.colour[a][b] == c) {
                    throw refused(3, c);
                }
                answer = now.colour[a][b];
                now.colour[a][b] = c;
                break;
            case "m":
                range(a, 0, 2);
                if (now.manner == a) {
                    throw refused(3, a);
                }
                answer = now.manner;
                now.manner = a;
                break;
            case "s":
                range(a, 1, 40);
                if (now.hoes.isEmpty()) {
                    throw refused(4, now.made);
                }
                answer = -now.went();
                for (int i = 0; i < a; i++) {
                    now.step();
                }
                return answer + now.went();
            default:
                if (now.past.isEmpty()) {
                    throw refused(5, now.taken);
                }
                State before = now.past.get(now.past.size() - 1).copyWithoutPast();
                before.past = new ArrayList<>(now.past.subList(0, now.past.size() - 1));
                before.taken = now.taken + 1;
                now = before;
                return now.past.size();
        }
        now.past.clear();
        return answer;
    }

    private State ahead(int steps) {
        State state = now.copyWithoutPast();
        for (int i = 0; i < steps; i++) {
            state.step();
        }
        return state;
    }

    private boolean fits() {
        State state = now.copyWithoutPast();
        state.inverse();
        return state.picture().equals(now.past.get(now.past.size() - 1).picture());
    }

    private static int faultOf(String text) {
        for (int length = 1; length <= text.length(); length++) {
            Matcher matcher = TEXT.matcher(text.substring(0, length));
            if (!matcher.matches() && !matcher.hitEnd()) {
                return length - 1;
            }
        }
        return TEXT.matcher(text).matches() ? -1 : text.length();
    }

    private int runText() {
        String text = input;
        input = "";
        error = faultOf(text);
        if (error >= 0) {
            throw new IllegalArgumentException();
        }
        State before = now.copy();
        String[] orders = text.split(";");
        for (String order : orders) {
            String kind = order.substring(0, 1);
            try {
                int a = order.length() > 1 ? order.charAt(1) - '0' : 0;
                int b = order.length() > 2 ? order.charAt(2) - '0' : 0;
                int c = 0;
                if (kind.equals("h")) {
                    c = "urdl".indexOf(order.charAt(3));
                } else if (kind.equals("t")) {
                    b = "NRLU".indexOf(order.charAt(3));
                } else if (kind.equals("p")) {
                    c = order.charAt(4) - '0';
                } else if (kind.equals("s")) {
                    a = Integer.parseInt(order.substring(1));
                }
                carryOut(kind, a, b, c);
            } catch (UnsupportedOperationException e) {
                now = before;
                throw e;
            } catch (RuntimeException e) {
                now = before;
                throw new IllegalArgumentException(e);
            }
        }
        remember(before);
        return orders.length;
    }

    private int highwayOf(int hoe) {
        theHoe(hoe);
        State state = now.copyWithoutPast();
        StringBuilder turned = new StringBuilder();
        for (int i = 0; i < 120; i++) {
            state.step();
            turned.append(state.hoes.get(hoe).turned);
        }
        for (int p = 1; p <= 40; p++) {
            if (turned.substring(0, 2 * p).equals(turned.substring(p, 3 * p))) {
                return p;
            }
        }
        throw new NoSuchElementException();
    }

    private int rank(int place) {
        thereIs(place >= 0 && place < now.hoes.size());
        List<Integer> order = new ArrayList<>();
        for (int i = 0; i < now.hoes.size(); i++) {
            order.add(i);
        }
        order.sort((x, y) -> now.hoes.get(y).went - now.hoes.get(x).went);
        return order.get(place);
    }

    private String rowText(int row) {
        cell(row, 0);
        StringBuilder text = new StringBuilder();
        for (int column = 0; column < 9; column++) {
            List<Hoe> there = now.hoesOn(row, column);
            text.append(there.isEmpty() ? "" + now.colour[row][column] : "" + "ABCD".charAt(now.hoes.indexOf(there.get(0))));
        }
        return text.toString();
    }

    private int cellsPainted() {
        int sum = 0;
        for (int[] row : now.painted) {
            for (int times : row) {
                sum += times > 0 ? 1 : 0;
            }
        }
        return sum;
    }

    private int account(int what) {
        range(what, 0, 10);
        int[] all = {now.hoes.size(), now.many, now.manner, now.made, now.past.size(), now.taken, cellsPainted(),
            now.met(), now.trail.size(), input.length(), undos.size()};
        return all[what];
    }

    private int firstStep(int hoe) {
        State state = now.copyWithoutPast();
        for (int i = 1; i <= 200; i++) {
            state.step();
            boolean is = hoe < 0 ? state.met() != now.met()
                : state.hoes.get(hoe).row == now.hoes.get(hoe).row
                    && state.hoes.get(hoe).column == now.hoes.get(hoe).column;
            if (is) {
                return i;
            }
        }
        throw new NoSuchElementException();
    }

    private int cellsWith(int colour) {
        range(colour, 0, 3);
        int sum = 0;
        for (int size : now.fields().get(colour)) {
            sum += size;
        }
        return sum;
    }

    private int inField(int row, int column) {
        cell(row, column);
        Set<Integer> seen = new HashSet<>();
        now.gather(row, column, now.colour[row][column], seen);
        return seen.size();
    }

    private int hoeNumber(int hoe, int what) {
        Hoe it = theHoe(hoe);
        range(what, 0, 4);
        return new int[] {it.row, it.column, it.heading, it.went, it.met}[what];
    }

    private int willBe(int hoe, int steps) {
        theHoe(hoe);
        range(steps, 0, 200);
        Hoe then = ahead(steps).hoes.get(hoe);
        return 9 * then.row + then.column;
    }

    private int greatest(int colour) {
        range(colour, 0, 3);
        int most = 0;
        for (int size : now.fields().get(colour)) {
            most = Math.max(most, size);
        }
        return most;
    }

    private double mean() {
        return (cellsWith(1) + 2 * cellsWith(2) + 3 * cellsWith(3)) / 81.0;
    }

    private int undoLatest() {
        if (undos.isEmpty()) {
            throw new IllegalStateException();
        }
        now = undos.remove(undos.size() - 1);
        return undos.size();
    }

    private int bringSaved() {
        if (saved == null) {
            throw new IllegalStateException();
        }
        now = saved.copy();
        undos.clear();
        return now.hoes.size();
    }

    private int put(int c) {
        if (input.length() == 60) {
            throw new IllegalStateException();
        }
        input += (char) c;
        return input.length();
    }

    Object call(String name, int a, int b, int c) {
        switch (name) {
            case "hoe": return change("h", a, b, c);
            case "drop": return change("x", a, b, c);
            case "colours": return change("k", a, b, c);
            case "turn": return change("t", a, b, c);
            case "paint": return change("p", a, b, c);
            case "manner": return change("m", a, b, c);
            case "step": return change("s", a, b, c);
            case "back": return change("b", a, b, c);
            case "at": cell(a, b); return now.colour[a][b];
            case "hoeOf": return hoeNumber(a, b);
            case "on": cell(a, b); return now.hoesOn(a, b).size();
            case "isInverse": thereIs(!now.past.isEmpty()); return fits();
            case "trail": thereIs(a >= 0 && a < now.trail.size()); return now.trail.get(a);
            case "painted": cell(a, b); return now.painted[a][b];
            case "count": return cellsWith(a);
            case "fields": case "fieldsAgain": range(a, 0, 3); return now.fields().get(a).size();
            case "field": return inField(a, b);
            case "greatest": return greatest(a);
            case "willBe": return willBe(a, b);
            case "willMeet": range(a, 0, 200); return ahead(a).met() - now.met();
            case "meetIn": return firstStep(-1);
            case "isBackIn": theHoe(a); return firstStep(a);
            case "highway": return highwayOf(a);
            case "ranked": return rank(a);
            case "rowLine": line = rowText(a); return 9;
            case "turnLine":
                line = "";
                for (int i = 0; i < now.many; i++) {
                    line += "NRLU".charAt(now.turns[i]);
                }
                return now.many;
            case "character":
                if (a < 0 || a >= line.length()) {
                    throw new IndexOutOfBoundsException();
                }
                return line.charAt(a);
            case "append": return put(a);
            case "run": return runText();
            case "errorPosition": return error;
            case "refusal": thereIs(reason != 0); return a != 0 ? detail : reason;
            case "account": return account(a);
            case "isWell": return now.manner != 0 || now.past.isEmpty() || fits();
            case "meanColour": return mean();
            case "paintedShare": return cellsPainted() / 81f;
            case "undo": return undoLatest();
            case "save": saved = now.copy(); return now.hoes.size();
            case "restore": return bringSaved();
            default: throw new AssertionError(name);
        }
    }
}
