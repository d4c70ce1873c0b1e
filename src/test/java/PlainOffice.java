import java.util.ArrayList;
import java.util.HashMap;
import java.util.HashSet;
import java.util.List;
import java.util.Map;
import java.util.Set;
import java.util.TreeSet;

/**
 * The document once more, in the plainest way and by other means than the program's: pieces
 * one by one, all PLANS looked through, whole states kept for undo. ModelTest compares the two.
 */
final class PlainOffice {
    /** Stands for NoSuchElementException. */
    static final long THROWS = Long.MIN_VALUE;

    private enum Where { IN, OUT, SPENT, LOST, BACK }

    private record Kind(int kind, int places, int engine, int cost, int count, int stay, Set<Integer> lands) {
    }

    private static final class Trip {
        int lorry;
        List<Integer> row;
        int state;
        int type = -1;
        int outDay = -1;
        int doneDay = -1;
        boolean late;

        Trip copy() {
            Trip other = new Trip();
            other.lorry = lorry;
            other.row = row;
            other.state = state;
            other.type = type;
            other.outDay = outDay;
            other.doneDay = doneDay;
            other.late = late;
            return other;
        }
    }

    private static final class State {
        int today;
        int lands;
        int reissue = 1;
        Set<Set<Integer>> borders = new HashSet<>();
        List<Kind> types = new ArrayList<>();
        List<int[]> lorries = new ArrayList<>();
        List<List<Where>> pieces = new ArrayList<>();
        int[] reissued = new int[6];
        int[] misuses = new int[8];
        List<Trip> trips = new ArrayList<>();

        State copy() {
            State other = new State();
            other.today = today;
            other.lands = lands;
            other.reissue = reissue;
            other.borders = borders;
            other.types = types;
            other.lorries = lorries;
            for (List<Where> all : pieces) {
                other.pieces.add(new ArrayList<>(all));
            }
            other.reissued = reissued.clone();
            other.misuses = misuses.clone();
            for (Trip trip : trips) {
                other.trips.add(trip.copy());
            }
            return other;
        }
    }

    private static final class Fault extends RuntimeException {
        private static final long serialVersionUID = 1L;
        final int kind;
        final int place;

        Fault(int kind, int place) {
            this.kind = kind;
            this.place = place;
        }
    }

    private State state = new State();
    private final List<State> past = new ArrayList<>();
    private StringBuilder tape = new StringBuilder();
    private int faultKind;
    private Map<String, Best> plans = new HashMap<>();

    // ---- the text

    long feed(int... numbers) {
        if (tape.length() + 20 > 740) {
            return -1;
        }
        for (int number : numbers) {
            for (int k = 3; k >= 0; k--) {
                tape.append((char) (number >>> 8 * k & 255));
            }
        }
        return tape.length();
    }

    boolean end(int n) {
        if (n < 0 || n > tape.length()) {
            return false;
        }
        tape.setLength(n);
        return true;
    }

    long fault() {
        return faultKind;
    }

    private String source;
    private int at;
    private int place;

    long text() {
        source = tape.toString();
        tape = new StringBuilder();
        at = 0;
        State told = new State();
        int lines = 0;
        int borderLines = 0;
        try {
            for (String word = token(); word != null; word = token()) {
                if ((lines == 0) != word.equals("lands")) {
                    throw new Fault(1, place);
                }
                switch (word) {
                    case "lands" -> {
                        told.lands = number(1, 8, Set.of());
                        told.reissue = number(1, 9, Set.of());
                        semicolon(token());
                    }
                    case "border" -> {
                        if (++borderLines > 28) {
                            throw new Fault(3, place);
                        }
                        int one = number(0, told.lands - 1, Set.of());
                        int other = number(0, told.lands - 1, Set.of(one));
                        told.borders.add(Set.of(one, other));
                        semicolon(token());
                    }
                    case "type" -> {
                        if (told.types.size() == 6) {
                            throw new Fault(3, place);
                        }
                        type(told);
                    }
                    case "lorry" -> {
                        if (told.lorries.size() == 8) {
                            throw new Fault(3, place);
                        }
                        int home = number(0, told.lands - 1, Set.of());
                        told.lorries.add(new int[] {home, number(1, 6, Set.of())});
                        semicolon(token());
                    }
                    default -> throw new Fault(1, place);
                }
                lines++;
            }
            if (source.length() > 700) {
                throw new Fault(1, 700);
            }
        } catch (Fault e) {
            faultKind = e.kind;
            return -1 - e.place;
        }
        faultKind = 0;
        state = told;
        past.clear();
        plans.clear();
        return lines;
    }

    private void type(State told) {
        String word = token();
        int kind = List.of("single", "multi", "shared").indexOf(word == null ? "" : word);
        if (kind < 0) {
            throw new Fault(1, place);
        }
        int places = kind == 2 ? number(2, 9, Set.of()) : 1;
        int engine = number(1, 6, Set.of());
        int cost = number(0, 99, Set.of());
        int count = number(0, 9, Set.of());
        int stay = number(0, 99, Set.of());
        Set<Integer> lands = new TreeSet<>();
        lands.add(number(0, told.lands - 1, lands));
        String next = token();
        while (next != null && Character.isDigit(next.charAt(0))) {
            lands.add(check(next, 0, told.lands - 1, lands));
            next = token();
        }
        semicolon(next);
        told.types.add(new Kind(kind, places, engine, cost, count, stay, lands));
        List<Where> pieces = new ArrayList<>();
        for (int k = 0; k < count; k++) {
            pieces.add(Where.IN);
        }
        told.pieces.add(pieces);
    }

    private void semicolon(String token) {
        if (!";".equals(token)) {
            throw new Fault(1, place);
        }
    }

    private int number(int least, int most, Set<Integer> told) {
        return check(token(), least, most, told);
    }

    private int check(String token, int least, int most, Set<Integer> told) {
        if (token == null || !token.matches("[0-9]+")) {
            throw new Fault(1, place);
        }
        int number = Integer.parseInt(token);
        if (number < least || number > most || told.contains(number)) {
            throw new Fault(2, place);
        }
        return number;
    }

    /** The next token, null at the end; place tells where it begins. */
    private String token() {
        while (at < source.length() && " \n".indexOf(source.charAt(at)) >= 0) {
            at++;
        }
        if (at >= source.length() || at >= 700) {
            place = Math.min(700, source.length());
            return null;
        }
        place = at;
        int behind = at;
        while (behind < source.length() && String.valueOf(source.charAt(behind)).matches("[a-z0-9]")) {
            behind++;
        }
        String token = source.substring(at, Math.max(behind, at + 1));
        if (!token.matches("[a-z]+|[0-9]{1,2}|;")) {
            throw new Fault(1, place);
        }
        at += token.length();
        return token;
    }

    // ---- what is told

    private boolean isType(int type) {
        return type >= 0 && type < state.types.size();
    }

    private boolean isLorry(int lorry) {
        return lorry >= 0 && lorry < state.lorries.size();
    }

    private boolean isTrip(int trip) {
        return trip >= 0 && trip < state.trips.size();
    }

    private boolean isLand(int land) {
        return land >= 0 && land < state.lands;
    }

    boolean isBorder(int one, int other) {
        return one != other && state.borders.contains(Set.of(one, other));
    }

    long now(int what) {
        return switch (what) {
            case 0 -> state.today;
            case 1 -> state.lands;
            case 2 -> state.types.size();
            case 3 -> state.lorries.size();
            case 4 -> state.trips.size();
            case 5 -> state.trips.stream().filter(t -> t.state == 0).count();
            case 6 -> state.trips.stream().filter(t -> t.state == 1).count();
            case 7 -> state.borders.size();
            case 8 -> java.util.Arrays.stream(state.misuses).sum();
            case 9 -> past.size();
            case 10 -> tape.length();
            default -> -1;
        };
    }

    long type(int type, int what) {
        if (!isType(type)) {
            return -1;
        }
        Kind kind = state.types.get(type);
        return switch (what) {
            case 0 -> kind.kind;
            case 1 -> kind.places;
            case 2 -> kind.engine;
            case 3 -> kind.cost;
            case 4 -> kind.count;
            case 5 -> kind.stay;
            case 6 -> kind.lands.stream().mapToInt(land -> 1 << land).sum();
            case 7 -> freeOf(type);
            default -> -1;
        };
    }

    private int count(int type, Where where) {
        return (int) state.pieces.get(type).stream().filter(piece -> piece == where).count();
    }

    private int freeOf(int type) {
        Kind kind = state.types.get(type);
        int in = count(type, Where.IN) * kind.places;
        return kind.kind == 2 ? in + count(type, Where.OUT) * kind.places - holders(type) : in;
    }

    private int holders(int type) {
        return (int) state.trips.stream().filter(t -> t.state == 1 && t.type == type).count();
    }

    long ledger(int type, int what) {
        if (!isType(type) || what < 0 || what > 5) {
            return -1;
        }
        return what == 5 ? state.reissued[type] : count(type, Where.values()[what]);
    }

    private int tripOf(int lorry) {
        for (int trip = 0; trip < state.trips.size(); trip++) {
            if (state.trips.get(trip).lorry == lorry && state.trips.get(trip).state != 2) {
                return trip;
            }
        }
        return -1;
    }

    long lorry(int lorry, int what) {
        if (!isLorry(lorry)) {
            return THROWS;
        }
        return switch (what) {
            case 0, 1 -> state.lorries.get(lorry)[what];
            case 2 -> tripOf(lorry);
            case 3 -> state.misuses[lorry];
            case 4 -> state.trips.stream().filter(t -> t.lorry == lorry && t.state == 2).count();
            default -> THROWS;
        };
    }

    long trip(int number, int what) {
        if (!isTrip(number)) {
            return -1;
        }
        Trip trip = state.trips.get(number);
        return switch (what) {
            case 0 -> trip.lorry;
            case 1 -> trip.row.size();
            case 2 -> trip.state;
            case 3 -> trip.type;
            case 4 -> trip.outDay;
            case 5 -> trip.doneDay;
            case 6 -> trip.late ? 1 : 0;
            default -> what >= 10 && what < 10 + trip.row.size() ? trip.row.get(what - 10) : -1;
        };
    }

    boolean fits(int type, int trip) {
        if (!isType(type) || !isTrip(trip)) {
            return false;
        }
        List<Integer> row = state.trips.get(trip).row;
        return state.lorries.get(state.trips.get(trip).lorry)[1] >= state.types.get(type).engine
                && state.types.get(type).lands.containsAll(row.subList(1, row.size()));
    }

    // ---- the plan

    /** What is best for the TRIPS from one on; of the choices -1 is none. */
    private record Best(int served, int cost, List<Integer> choices) {
        boolean beats(Best other) {
            return other == null || served > other.served || served == other.served && cost < other.cost;
        }
    }

    private List<Integer> waiting() {
        List<Integer> numbers = new ArrayList<>();
        for (int trip = 0; trip < state.trips.size(); trip++) {
            if (state.trips.get(trip).state == 0) {
                numbers.add(trip);
            }
        }
        return numbers;
    }

    private Best best(List<Integer> waiting, int k, int[] free) {
        if (k == waiting.size()) {
            return new Best(0, 0, List.of());
        }
        StringBuilder name = new StringBuilder().append(k);
        for (int one : free) {
            name.append(' ').append(Math.min(one, waiting.size()));
        }
        String key = name.toString();
        Best found = plans.get(key);
        if (found != null) {
            return found;
        }
        // The choices are tried in the order in which they count, so only a better one beats.
        for (int choice = 0; choice <= free.length; choice++) {
            boolean none = choice == free.length;
            if (!none && (free[choice] == 0 || !fits(choice, waiting.get(k)))) {
                continue;
            }
            int[] left = free.clone();
            if (!none) {
                left[choice]--;
            }
            Best rest = best(waiting, k + 1, left);
            List<Integer> choices = new ArrayList<>();
            choices.add(none ? -1 : choice);
            choices.addAll(rest.choices);
            Best whole = new Best(rest.served + (none ? 0 : 1),
                    rest.cost + (none ? 0 : state.types.get(choice).cost), choices);
            if (whole.beats(found)) {
                found = whole;
            }
        }
        plans.put(key, found);
        return found;
    }

    private Best best(int type, int more) {
        int[] free = new int[state.types.size()];
        for (int k = 0; k < free.length; k++) {
            free[k] = Math.max(0, freeOf(k) + (k == type ? more : 0));
        }
        return best(waiting(), 0, free);
    }

    long plan(int what) {
        Best best = best(-1, 0);
        int k = waiting().indexOf(what - 10);
        return what == 0 ? best.served : what == 1 ? best.cost : what >= 10 && k >= 0 ? best.choices.get(k) : -1;
    }

    long served(int type, int more) {
        return isType(type) && more >= -99 && more <= 99 ? best(type, more).served : -1;
    }

    long needs(int type) {
        if (!isType(type)) {
            return -1;
        }
        for (int more = 0; more < 50; more++) {
            if (best(type, more).served == waiting().size()) {
                return more;
            }
        }
        return -2;
    }

    // ---- roads

    long free(int land, int engine) {
        if (!isLand(land) || engine < 1 || engine > 6) {
            return -1;
        }
        int sum = 0;
        for (int type = 0; type < state.types.size(); type++) {
            Kind kind = state.types.get(type);
            sum += kind.lands.contains(land) && kind.engine <= engine ? freeOf(type) : 0;
        }
        return sum;
    }

    long shortest(int lorry, int land) {
        if (!isLorry(lorry) || !isLand(land) || state.lorries.get(lorry)[0] == land) {
            return -1;
        }
        int least = 99;
        for (Kind kind : state.types) {
            if (kind.engine <= state.lorries.get(lorry)[1]) {
                List<Integer> row = new ArrayList<>(List.of(state.lorries.get(lorry)[0]));
                least = Math.min(least, walk(row, land, kind.lands));
            }
        }
        return least == 99 ? -2 : least;
    }

    /** All rows are walked; the size of the shortest that ends in the land. */
    private int walk(List<Integer> row, int land, Set<Integer> lands) {
        int here = row.get(row.size() - 1);
        if (here == land) {
            return row.size();
        }
        int least = 99;
        for (int next : lands) {
            if (!row.contains(next) && state.borders.contains(Set.of(here, next))) {
                row.add(next);
                least = Math.min(least, walk(row, land, lands));
                row.remove(row.size() - 1);
            }
        }
        return least;
    }

    private boolean isLate(Trip trip) {
        return state.today - trip.outDay > state.types.get(trip.type).stay;
    }

    long lawful(int lorry, int land) {
        if (!isLorry(lorry) || !isLand(land)) {
            return -1;
        }
        int number = tripOf(lorry);
        if (number < 0 || state.trips.get(number).state != 1) {
            return 1;
        }
        Trip trip = state.trips.get(number);
        return !trip.row.contains(land) ? 2 : isLate(trip) ? 3 : 0;
    }

    // ---- acts

    /** Keeps what is now, ahead of an act that is not refused. */
    private void keep() {
        past.add(state);
        state = state.copy();
        plans.clear();
        if (past.size() > 10) {
            past.remove(0);
        }
    }

    private void move(int type, Where from, Where to) {
        List<Where> pieces = state.pieces.get(type);
        pieces.set(pieces.indexOf(from), to);
    }

    /** Brings so many shared pieces out as the lorries need. */
    private void settle(int type) {
        Kind kind = state.types.get(type);
        int need = 0;
        while (need * kind.places < holders(type)) {
            need++;
        }
        while (count(type, Where.OUT) < need) {
            move(type, Where.IN, Where.OUT);
        }
        while (count(type, Where.OUT) > need) {
            move(type, Where.OUT, Where.IN);
        }
    }

    long ask(int lorry, int row, int many) {
        if (!isLorry(lorry) || many < 2 || many > 6 || row < 0 || String.valueOf(row).length() > many) {
            return -1;
        }
        String digits = new StringBuilder("0".repeat(many) + row).reverse().substring(0, many);
        List<Integer> lands = new ArrayList<>();
        for (char digit : digits.toCharArray()) {
            int land = digit - '0';
            boolean fine = lands.isEmpty() ? land == state.lorries.get(lorry)[0]
                    : !lands.contains(land) && state.borders.contains(Set.of(land, lands.get(lands.size() - 1)));
            if (!fine) {
                return -1;
            }
            lands.add(land);
        }
        if (tripOf(lorry) >= 0) {
            return -2;
        }
        if (state.trips.size() == 40) {
            return -3;
        }
        keep();
        Trip trip = new Trip();
        trip.lorry = lorry;
        trip.row = lands;
        state.trips.add(trip);
        return state.trips.size() - 1;
    }

    boolean drop(int trip) {
        if (!isTrip(trip) || state.trips.get(trip).state != 0) {
            return false;
        }
        keep();
        state.trips.get(trip).state = 2;
        state.trips.get(trip).doneDay = state.today;
        return true;
    }

    long assign() {
        Best best = best(-1, 0);
        List<Integer> waiting = waiting();
        keep();
        for (int k = 0; k < waiting.size(); k++) {
            int type = best.choices.get(k);
            if (type >= 0) {
                Trip trip = state.trips.get(waiting.get(k));
                trip.state = 1;
                trip.type = type;
                trip.outDay = state.today;
                settle(type);
            }
        }
        return best.served;
    }

    long home(int lorry) {
        if (!isLorry(lorry) || tripOf(lorry) < 0 || state.trips.get(tripOf(lorry)).state != 1) {
            return THROWS;
        }
        keep();
        Trip trip = state.trips.get(tripOf(lorry));
        trip.late = isLate(trip);
        trip.state = 2;
        trip.doneDay = state.today;
        if (trip.late) {
            state.misuses[lorry]++;
        }
        if (state.types.get(trip.type).kind == 0) {
            move(trip.type, Where.OUT, trip.late ? Where.LOST : Where.SPENT);
        } else {
            settle(trip.type);
        }
        return state.today - trip.outDay;
    }

    long stop(int lorry, int land) {
        long told = lawful(lorry, land);
        if (told < 0) {
            return -1;
        }
        keep();
        state.misuses[lorry] += told > 0 ? 1 : 0;
        return told;
    }

    long handBack(int type, int n) {
        if (!isType(type) || n < 1 || n > count(type, Where.SPENT)) {
            return -1;
        }
        keep();
        for (int k = 0; k < n; k++) {
            move(type, Where.SPENT, Where.BACK);
        }
        int came = 0;
        while (count(type, Where.BACK) - state.reissued[type] * state.reissue >= state.reissue) {
            state.pieces.get(type).add(Where.IN);
            state.reissued[type]++;
            came++;
        }
        return came;
    }

    long pass(int days) {
        if (days < 1 || days > 99 || state.today + days > 999) {
            return -1;
        }
        keep();
        state.today += days;
        return state.today;
    }

    long undo() {
        if (past.isEmpty()) {
            return -1;
        }
        state = past.remove(past.size() - 1);
        plans.clear();
        return past.size();
    }
}
