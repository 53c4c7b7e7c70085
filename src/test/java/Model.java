import java.util.ArrayDeque;
import java.util.ArrayList;
import java.util.Deque;
import java.util.List;
import java.util.regex.Matcher;
import java.util.regex.Pattern;

/** The document told a second time, in another form and without any care for speed. */
final class Model {
    private static final int BAD = -1, STATE = -2, FULL = -3, NONE = -9;

    record Wagon(int number, int destination, int kind) { }

    record Move(int from, int to, int n) { }

    record Row(int minutes, List<Move> moves) { }

    /** What is recorded and kept; never changed once it is in the history or in an image. */
    private static final class State {
        int places = 6, clock, moves, moveMinutes, trainsGone, wagonsGone, come;
        int[] settings = {1, 120, 4, 5};
        List<Integer> trains = new ArrayList<>();
        List<List<Wagon>> tracks = emptyTracks(3);
        List<Integer> ends = noTests(3);

        State copy() {
            State s = new State();
            s.places = places;
            s.clock = clock;
            s.moves = moves;
            s.moveMinutes = moveMinutes;
            s.trainsGone = trainsGone;
            s.wagonsGone = wagonsGone;
            s.come = come;
            s.settings = settings.clone();
            s.trains = new ArrayList<>(trains);
            s.tracks = new ArrayList<>();
            for (List<Wagon> track : tracks) {
                s.tracks.add(new ArrayList<>(track));
            }
            s.ends = new ArrayList<>(ends);
            return s;
        }

        int wagons() {
            return tracks.stream().mapToInt(List::size).sum();
        }
    }

    private static List<List<Wagon>> emptyTracks(int k) {
        List<List<Wagon>> tracks = new ArrayList<>();
        for (int i = 0; i < k; i++) {
            tracks.add(new ArrayList<>());
        }
        return tracks;
    }

    private static List<Integer> noTests(int k) {
        List<Integer> ends = new ArrayList<>();
        for (int i = 0; i < k; i++) {
            ends.add(null);
        }
        return ends;
    }

    private State s = new State();
    private final Deque<State> history = new ArrayDeque<>();
    private final State[] images = new State[2];
    private String text = "";
    private int faultKind = NONE, faultPlace = NONE, reason = NONE;

    private void record() {
        history.addLast(s.copy());
        if (history.size() > 8) {
            history.removeFirst();
        }
    }

    private boolean noTrack(int track) {
        return track < 0 || track >= s.tracks.size();
    }

    int begin(int tracks, int capacity) {
        if (tracks < 2 || tracks > 4 || capacity < 1 || capacity > 8) {
            return BAD;
        }
        record();
        int before = s.wagons();
        int[] settings = s.settings;
        s = new State();
        s.settings = settings;
        s.places = capacity;
        s.tracks = emptyTracks(tracks);
        s.ends = noTests(tracks);
        return before;
    }

    private static final int[] LEAST = {0, 10, 1, 0}, GREATEST = {3, 600, 20, 30};

    int set(int setting, int value) {
        if (setting < 0 || setting > 3 || value < LEAST[setting] || value > GREATEST[setting]) {
            return BAD;
        }
        record();
        int before = s.settings[setting];
        s.settings[setting] = value;
        return before;
    }

    // What a text that can still become right looks like, but for the numbers of wagons and trains.
    private static final Pattern WAGONS_BEGIN =
            Pattern.compile(" *([1-8]?[A-F][fx]? +)*([1-8]|[1-8]?[A-F][fx]?)?");
    private static final Pattern WORD = Pattern.compile("([1-8]?)([A-F])([fx]?)");

    private static int wagonsOf(String part) {
        int sum = 0;
        for (Matcher m = WORD.matcher(part); m.find(); ) {
            sum += m.group(1).isEmpty() ? 1 : Integer.parseInt(m.group(1));
        }
        return sum;
    }

    private boolean hasFault(boolean wagons) {
        for (int i = 0; i < text.length(); i++) {
            String part = text.substring(0, i + 1);
            if (wagons ? !WAGONS_BEGIN.matcher(part).matches() : !part.matches("[A-F ]*")) {
                return fault(1, i);
            }
            if (wagons && wagonsOf(part) > 8) {
                return fault(3, i);
            }
            if (!wagons && part.replace(" ", "").length() > 10) {
                return fault(4, i);
            }
        }
        return wagons && text.matches(".*[1-8]") && fault(2, text.length());
    }

    private boolean fault(int kind, int place) {
        faultKind = kind;
        faultPlace = place;
        return true;
    }

    private List<Wagon> wagonsOfText() {
        List<Wagon> wagons = new ArrayList<>();
        for (Matcher m = WORD.matcher(text); m.find(); ) {
            int many = m.group(1).isEmpty() ? 1 : Integer.parseInt(m.group(1));
            for (int i = 0; i < many; i++) {
                wagons.add(new Wagon(s.come + wagons.size(), m.group(2).charAt(0) - 'A',
                        " fx".indexOf((m.group(3) + " ").charAt(0))));
            }
        }
        return wagons;
    }

    private static <T> List<T> joined(List<T> inner, List<T> outer) {
        List<T> all = new ArrayList<>(inner);
        all.addAll(outer);
        return all;
    }

    /** NONE if there are no two such wagons; each pair with no danger between them is looked at. */
    private static int gapOf(List<Wagon> row) {
        int least = NONE;
        for (int i = 0; i < row.size(); i++) {
            for (int j = i + 1; j < row.size(); j++) {
                boolean bare = row.subList(i + 1, j).stream().allMatch(w -> w.kind() == 0);
                if (row.get(i).kind() + row.get(j).kind() == 3
                        && row.get(i).kind() * row.get(j).kind() == 2 && bare) {
                    least = least == NONE ? j - i - 1 : Math.min(least, j - i - 1);
                }
            }
        }
        return least;
    }

    private boolean safe(List<Wagon> row) {
        return gapOf(row) == NONE || gapOf(row) >= s.settings[0];
    }

    int arrive(int track) {
        if (noTrack(track)) {
            return BAD;
        }
        if (hasFault(true)) {
            return STATE;
        }
        List<Wagon> come = wagonsOfText();
        List<Wagon> all = joined(s.tracks.get(track), come);
        if (!safe(all)) {
            return STATE;
        }
        if (all.size() > s.places) {
            return FULL;
        }
        record();
        s.tracks.set(track, all);
        s.come += come.size();
        if (!come.isEmpty()) {
            s.ends.set(track, null);
        }
        return all.size();
    }

    int list() {
        if (hasFault(false)) {
            return STATE;
        }
        record();
        s.trains = new ArrayList<>();
        for (char c : text.replace(" ", "").toCharArray()) {
            s.trains.add(c - 'A');
        }
        return s.trains.size();
    }

    int cost(int from, int to, int n) {
        if (noTrack(from) || noTrack(to) || from == to || n < 1 || n > 8) {
            return BAD;
        }
        List<Wagon> source = s.tracks.get(from);
        if (source.size() < n) {
            return STATE;
        }
        List<Wagon> stay = source.subList(0, source.size() - n);
        List<Wagon> go = source.subList(source.size() - n, source.size());
        List<Wagon> behind = joined(s.tracks.get(to), go);
        if (!safe(stay) || !safe(behind)) {
            return STATE;
        }
        if (behind.size() > s.places) {
            return FULL;
        }
        int danger = go.stream().anyMatch(w -> w.kind() == 2) ? 5 : 0;
        return s.settings[2] + n + 2 * Math.abs(from - to) + danger;
    }

    private int drive(int from, int to, int n) {
        int minutes = cost(from, to, n);
        List<Wagon> source = s.tracks.get(from);
        List<Wagon> stay = new ArrayList<>(source.subList(0, source.size() - n));
        List<Wagon> go = new ArrayList<>(source.subList(source.size() - n, source.size()));
        s.tracks.set(from, stay);
        s.tracks.set(to, joined(s.tracks.get(to), go));
        s.ends.set(from, null);
        s.ends.set(to, null);
        s.clock += minutes;
        s.moves++;
        s.moveMinutes += minutes;
        return minutes;
    }

    int move(int from, int to, int n) {
        int code = cost(from, to, n);
        if (code < 0) {
            return code;
        }
        record();
        return drive(from, to, n);
    }

    int test(int track) {
        if (noTrack(track)) {
            return BAD;
        }
        if (s.tracks.get(track).isEmpty()) {
            return STATE;
        }
        record();
        int minutes = s.settings[3] + 2 * s.tracks.get(track).size();
        s.clock += minutes;
        s.ends.set(track, s.clock);
        return minutes;
    }

    int pause(int minutes) {
        if (minutes < 1 || minutes > 1000) {
            return BAD;
        }
        record();
        return s.clock += minutes;
    }

    private int holds(int track) {
        Integer end = s.ends.get(track);
        if (end == null || s.clock - end >= s.settings[1]) {
            return 0;
        }
        return s.settings[1] - (s.clock - end);
    }

    private int refusal(int track) {
        List<Wagon> row = s.tracks.get(track);
        if (s.trains.isEmpty()) {
            return 1;
        }
        int first = s.trains.get(0);
        if (row.isEmpty()) {
            return 2;
        }
        if (row.stream().anyMatch(w -> w.destination() != first)) {
            return 3;
        }
        for (int other = 0; other < s.tracks.size(); other++) {
            if (other != track && s.tracks.get(other).stream().anyMatch(w -> w.destination() == first)) {
                return 4;
            }
        }
        return !safe(row) ? 5 : holds(track) == 0 ? 6 : 0;
    }

    int depart(int track) {
        if (noTrack(track)) {
            return BAD;
        }
        if (refusal(track) != 0) {
            reason = refusal(track);
            return STATE;
        }
        record();
        int gone = s.tracks.get(track).size();
        s.tracks.set(track, new ArrayList<>());
        s.ends.set(track, null);
        s.trains.remove(0);
        s.trainsGone++;
        s.wagonsGone += gone;
        return gone;
    }

    private int madeUp() {
        if (s.trains.isEmpty()) {
            return NONE;
        }
        int first = s.trains.get(0);
        long all = s.tracks.stream().flatMap(List::stream).filter(w -> w.destination() == first).count();
        for (int track = 0; track < s.tracks.size(); track++) {
            List<Wagon> row = s.tracks.get(track);
            if (all > 0 && row.size() == all && row.stream().allMatch(w -> w.destination() == first)) {
                return track;
            }
        }
        return NONE;
    }

    private Row cheapestRow(int most) {
        if (s.trains.isEmpty()) {
            return null;
        }
        List<Row> rows = new ArrayList<>();
        State present = s;
        collect(most, 0, new ArrayList<>(), rows);
        s = present;
        Row best = null;
        for (Row row : rows) {
            if (best == null || comesBefore(row, best)) {
                best = row;
            }
        }
        return best;
    }

    private void collect(int left, int minutes, List<Move> moves, List<Row> rows) {
        if (madeUp() != NONE) {
            rows.add(new Row(minutes, new ArrayList<>(moves)));
        }
        if (left == 0) {
            return;
        }
        State here = s;
        for (int n = 8; n >= 1; n--) {
            for (int to = here.tracks.size() - 1; to >= 0; to--) {
                for (int from = here.tracks.size() - 1; from >= 0; from--) {
                    s = here;
                    if (cost(from, to, n) > 0) {
                        s = here.copy();
                        moves.add(new Move(from, to, n));
                        collect(left - 1, minutes + drive(from, to, n), moves, rows);
                        moves.remove(moves.size() - 1);
                    }
                }
            }
        }
        s = here;
    }

    private static boolean comesBefore(Row a, Row b) {
        if (a.minutes() != b.minutes()) {
            return a.minutes() < b.minutes();
        }
        if (a.moves().size() != b.moves().size()) {
            return a.moves().size() < b.moves().size();
        }
        for (int i = 0; i < a.moves().size(); i++) {
            Move m = a.moves().get(i), o = b.moves().get(i);
            int code = m.from() * 100 + m.to() * 10 + m.n(), other = o.from() * 100 + o.to() * 10 + o.n();
            if (code != other) {
                return code < other;
            }
        }
        return false;
    }

    int makeUp(int most) {
        if (most < 0 || most > 3) {
            return BAD;
        }
        Row row = cheapestRow(most);
        if (row == null) {
            return STATE;
        }
        record();
        int minutes = 0;
        for (Move m : row.moves()) {
            minutes += drive(m.from(), m.to(), m.n());
        }
        return minutes;
    }

    int cheapest(int most, int what) {
        if (most < 0 || most > 3 || what < 0 || what > 4) {
            return BAD;
        }
        return cheapest(most)[what];
    }

    /** The answers for what 0 to 4 by one search. */
    int[] cheapest(int most) {
        Row row = cheapestRow(most);
        if (row == null) {
            return new int[] {NONE, NONE, NONE, NONE, NONE};
        }
        if (row.moves().isEmpty()) {
            return new int[] {0, 0, NONE, NONE, NONE};
        }
        Move first = row.moves().get(0);
        return new int[] {row.minutes(), row.moves().size(), first.from(), first.to(), first.n()};
    }

    int undo() {
        if (history.isEmpty()) {
            return STATE;
        }
        s = history.removeLast();
        return history.size();
    }

    int write(int code) {
        if (code < 32 || code > 126) {
            return BAD;
        }
        if (text.length() == 60) {
            return FULL;
        }
        text += (char) code;
        return text.length();
    }

    int wipe() {
        int before = text.length();
        text = "";
        return before;
    }

    int fault(int what) {
        return what == 0 ? faultKind : what == 1 ? faultPlace : BAD;
    }

    int told(int what) {
        int unsafe = (int) s.tracks.stream().filter(row -> !safe(row)).count();
        int[] all = {s.tracks.size(), s.places, s.clock, s.wagons(), s.trains.size(), unsafe, s.moves,
            s.moveMinutes, s.trainsGone, s.wagonsGone, s.come, reason, madeUp(), text.length(), history.size()};
        return what < 0 || what >= all.length ? BAD : all[what];
    }

    int setting(int setting) {
        return setting < 0 || setting > 3 ? BAD : s.settings[setting];
    }

    int track(int track, int what) {
        if (noTrack(track)) {
            return BAD;
        }
        List<Wagon> row = s.tracks.get(track);
        int[] all = {row.size(), safe(row) ? 1 : 0, holds(track), gapOf(row), refusal(track)};
        return what < 0 || what >= all.length ? BAD : all[what];
    }

    int wagon(int track, int place, int what) {
        if (noTrack(track) || place < 0 || what < 0 || what > 2) {
            return BAD;
        }
        if (place >= s.tracks.get(track).size()) {
            return NONE;
        }
        Wagon w = s.tracks.get(track).get(place);
        return what == 0 ? w.number() : what == 1 ? w.destination() : w.kind();
    }

    int train(int k) {
        return k < 0 ? BAD : k < s.trains.size() ? s.trains.get(k) : NONE;
    }

    int find(int number, int what) {
        if (number < 0 || what < 0 || what > 1) {
            return BAD;
        }
        for (int track = 0; track < s.tracks.size(); track++) {
            for (int place = 0; place < s.tracks.get(track).size(); place++) {
                if (s.tracks.get(track).get(place).number() == number) {
                    return what == 0 ? track : place;
                }
            }
        }
        return NONE;
    }

    float mean() {
        return s.moves == 0 ? 0f : (float) s.moveMinutes / (float) s.moves;
    }

    int keep(int i) {
        if (i < 0 || i > 1) {
            return BAD;
        }
        images[i] = s.copy();
        return s.wagons();
    }

    int back(int i) {
        if (i < 0 || i > 1) {
            return BAD;
        }
        if (images[i] == null) {
            return STATE;
        }
        record();
        s = images[i].copy();
        return s.wagons();
    }
}
