import java.util.Arrays;

/** A railway yard whose tracks are stacks of wagons; DOC.md's promises say what each call does. */
public final class ShuntYard {
    public static final int BAD = -1, STATE = -2, FULL = -3, NONE = -9;

    private static final int MOST_TRACKS = 4;
    private static final int MOST_PLACES = 8;
    private static final int MOST_TRAINS = 10;
    private static final int MOST_BYTES = 60;
    private static final int MOST_MOVES = 3;
    private static final int MOST_UNDONE = 8;
    private static final int IMAGES = 2;

    private static final int COMMON = 0;
    private static final int FUEL = 1;
    private static final int EXPLOSIVES = 2;
    private static final int KINDS = 3;
    private static final int DESTINATIONS = 6;

    private static final int GAP = 0;
    private static final int TEST_HOLDS = 1;
    private static final int MOVE_TIME = 2;
    private static final int TEST_TIME = 3;

    private final Yard yard = new Yard();
    private final History history = new History();
    private final Yard[] images = new Yard[IMAGES];
    private final Text text = new Text();
    private final Search search = new Search();
    private int reason = NONE;

    public ShuntYard() {
    }

    // ---- changes

    public int begin(int tracks, int capacity) {
        if (!within(tracks, 2, MOST_TRACKS) || !within(capacity, 1, MOST_PLACES)) {
            return BAD;
        }
        int before = yard.wagonsInYard();
        history.add(yard);
        yard.restart(tracks, capacity);
        return before;
    }

    public int set(int setting, int value) {
        if (!isSetting(setting) || !within(value, leastOf(setting), greatestOf(setting))) {
            return BAD;
        }
        int before = yard.settings[setting];
        history.add(yard);
        yard.settings[setting] = value;
        return before;
    }

    public int arrive(int track) {
        if (!yard.hasTrack(track)) {
            return BAD;
        }
        if (!text.readWagons() || !yard.isSafeWith(track, text)) {
            return STATE;
        }
        if (yard.length[track] + text.found > yard.capacity) {
            return FULL;
        }
        history.add(yard);
        yard.takeIn(track, text);
        return yard.length[track];
    }

    public int list() {
        if (!text.readTrains()) {
            return STATE;
        }
        history.add(yard);
        yard.takeTrains(text);
        return yard.trains;
    }

    public int move(int from, int to, int n) {
        int code = yard.costOrCode(from, to, n);
        if (code < 0) {
            return code;
        }
        history.add(yard);
        return yard.drive(from, to, n);
    }

    public int test(int track) {
        if (!yard.hasTrack(track)) {
            return BAD;
        }
        if (yard.length[track] == 0) {
            return STATE;
        }
        history.add(yard);
        return yard.testBrakes(track);
    }

    public int pause(int minutes) {
        if (!within(minutes, 1, 1000)) {
            return BAD;
        }
        history.add(yard);
        yard.clock += minutes;
        return yard.clock;
    }

    public int depart(int track) {
        if (!yard.hasTrack(track)) {
            return BAD;
        }
        int refused = yard.refusal(track);
        if (refused != 0) {
            reason = refused;
            return STATE;
        }
        history.add(yard);
        return yard.sendOff(track);
    }

    public int makeUp(int most) {
        if (!within(most, 0, MOST_MOVES)) {
            return BAD;
        }
        if (!search.succeeds(yard, most)) {
            return STATE;
        }
        history.add(yard);
        Row row = search.best;
        int minutes = 0;
        for (int i = 0; i < row.moves; i++) {
            minutes += yard.drive(row.from[i], row.to[i], row.n[i]);
        }
        return minutes;
    }

    public int undo() {
        return history.restore(yard) ? history.count : STATE;
    }

    // ---- the text

    public int write(int code) {
        if (!within(code, 32, 126)) {
            return BAD;
        }
        if (text.length >= MOST_BYTES) {
            return FULL;
        }
        text.append(code);
        return text.length;
    }

    public int wipe() {
        int before = text.length;
        text.length = 0;
        return before;
    }

    public int fault(int what) {
        switch (what) {
            case 0: return text.faultKind;
            case 1: return text.faultPlace;
            default: return BAD;
        }
    }

    // ---- what is told

    public int told(int what) {
        switch (what) {
            case 0: return yard.tracks;
            case 1: return yard.capacity;
            case 2: return yard.clock;
            case 3: return yard.wagonsInYard();
            case 4: return yard.trains;
            case 5: return yard.unsafeTracks();
            case 6: return yard.moves;
            case 7: return yard.moveMinutes;
            case 8: return yard.trainsGone;
            case 9: return yard.wagonsGone;
            case 10: return yard.wagonsCome;
            case 11: return reason;
            case 12: return yard.madeUpTrack();
            case 13: return text.length;
            case 14: return history.count;
            default: return BAD;
        }
    }

    public int setting(int setting) {
        return isSetting(setting) ? yard.settings[setting] : BAD;
    }

    public int track(int track, int what) {
        if (!yard.hasTrack(track)) {
            return BAD;
        }
        switch (what) {
            case 0: return yard.length[track];
            case 1: return yard.isSafe(track) ? 1 : 0;
            case 2: return yard.testHoldsFor(track);
            case 3: return yard.leastGap(track);
            case 4: return yard.refusal(track);
            default: return BAD;
        }
    }

    public int wagon(int track, int place, int what) {
        if (!yard.hasTrack(track) || place < 0 || !within(what, 0, 2)) {
            return BAD;
        }
        if (place >= yard.length[track]) {
            return NONE;
        }
        int wagon = yard.wagonAt(track, place);
        switch (what) {
            case 0: return numberOf(wagon);
            case 1: return destinationOf(wagon);
            default: return kindOf(wagon);
        }
    }

    public int train(int k) {
        if (k < 0) {
            return BAD;
        }
        return k < yard.trains ? yard.destinations[k] : NONE;
    }

    public int find(int number, int what) {
        if (number < 0 || !within(what, 0, 1)) {
            return BAD;
        }
        int spot = yard.spotOf(number);
        if (spot == NONE) {
            return NONE;
        }
        return what == 0 ? spot / MOST_PLACES : spot % MOST_PLACES;
    }

    public float mean() {
        return yard.moves == 0 ? 0.0f : (float) yard.moveMinutes / (float) yard.moves;
    }

    // ---- what would be

    public int cost(int from, int to, int n) {
        return yard.costOrCode(from, to, n);
    }

    public int cheapest(int most, int what) {
        if (!within(most, 0, MOST_MOVES) || !within(what, 0, 4)) {
            return BAD;
        }
        if (!search.succeeds(yard, most)) {
            return NONE;
        }
        Row row = search.best;
        if (what >= 2 && row.moves == 0) {
            return NONE;
        }
        switch (what) {
            case 0: return row.minutes;
            case 1: return row.moves;
            case 2: return row.from[0];
            case 3: return row.to[0];
            default: return row.n[0];
        }
    }

    // ---- images

    public int keep(int i) {
        if (!within(i, 0, IMAGES - 1)) {
            return BAD;
        }
        if (images[i] == null) {
            images[i] = new Yard();
        }
        images[i].copyFrom(yard);
        return yard.wagonsInYard();
    }

    public int back(int i) {
        if (!within(i, 0, IMAGES - 1)) {
            return BAD;
        }
        if (images[i] == null) {
            return STATE;
        }
        history.add(yard);
        yard.copyFrom(images[i]);
        return yard.wagonsInYard();
    }

    // ---- ranges

    private static boolean within(int value, int least, int greatest) {
        return value >= least && value <= greatest;
    }

    private static boolean isSetting(int setting) {
        return within(setting, GAP, TEST_TIME);
    }

    private static int leastOf(int setting) {
        switch (setting) {
            case TEST_HOLDS: return 10;
            case MOVE_TIME: return 1;
            default: return 0;
        }
    }

    private static int greatestOf(int setting) {
        switch (setting) {
            case GAP: return 3;
            case TEST_HOLDS: return 600;
            case MOVE_TIME: return 20;
            default: return 30;
        }
    }

    // ---- a wagon in one int, so that states are copied without making objects

    private static int wagonOf(int number, int destination, int kind) {
        return (number * DESTINATIONS + destination) * KINDS + kind;
    }

    private static int numberOf(int wagon) {
        return wagon / (DESTINATIONS * KINDS);
    }

    private static int destinationOf(int wagon) {
        return wagon / KINDS % DESTINATIONS;
    }

    private static int kindOf(int wagon) {
        return wagon % KINDS;
    }

    /** All that changes record and images keep. */
    private static final class Yard {
        private static final int NO_TEST = -1;

        int tracks = 3;
        int capacity = 6;
        int clock;
        int moves;
        int moveMinutes;
        int trainsGone;
        int wagonsGone;
        // Serves as the number of the next wagon too: both start at 0 and grow together.
        int wagonsCome;
        int trains;
        final int[] settings = {1, 120, 4, 5};
        final int[] destinations = new int[MOST_TRAINS];
        final int[] length = new int[MOST_TRACKS];
        private final int[] testEnd = {NO_TEST, NO_TEST, NO_TEST, NO_TEST};
        private final int[] wagons = new int[MOST_TRACKS * MOST_PLACES];
        private final Gaps gaps = new Gaps();

        void copyFrom(Yard other) {
            tracks = other.tracks;
            capacity = other.capacity;
            clock = other.clock;
            moves = other.moves;
            moveMinutes = other.moveMinutes;
            trainsGone = other.trainsGone;
            wagonsGone = other.wagonsGone;
            wagonsCome = other.wagonsCome;
            trains = other.trains;
            System.arraycopy(other.settings, 0, settings, 0, settings.length);
            System.arraycopy(other.destinations, 0, destinations, 0, destinations.length);
            System.arraycopy(other.length, 0, length, 0, length.length);
            System.arraycopy(other.testEnd, 0, testEnd, 0, testEnd.length);
            System.arraycopy(other.wagons, 0, wagons, 0, wagons.length);
        }

        void restart(int newTracks, int newCapacity) {
            tracks = newTracks;
            capacity = newCapacity;
            clock = 0;
            moves = 0;
            moveMinutes = 0;
            trainsGone = 0;
            wagonsGone = 0;
            wagonsCome = 0;
            trains = 0;
            Arrays.fill(length, 0);
            Arrays.fill(testEnd, NO_TEST);
        }

        boolean hasTrack(int track) {
            return within(track, 0, tracks - 1);
        }

        int wagonAt(int track, int place) {
            return wagons[track * MOST_PLACES + place];
        }

        int wagonsInYard() {
            int sum = 0;
            for (int track = 0; track < tracks; track++) {
                sum += length[track];
            }
            return sum;
        }

        /** Track and place of a wagon in one int, or NONE. */
        int spotOf(int number) {
            for (int track = 0; track < tracks; track++) {
                for (int place = 0; place < length[track]; place++) {
                    if (numberOf(wagonAt(track, place)) == number) {
                        return track * MOST_PLACES + place;
                    }
                }
            }
            return NONE;
        }

        // -- arrivals and the list

        void takeIn(int track, Text text) {
            for (int i = 0; i < text.found; i++) {
                int come = text.read[i];
                wagons[track * MOST_PLACES + length[track]] =
                        wagonOf(wagonsCome, destinationOf(come), kindOf(come));
                wagonsCome++;
                length[track]++;
                testEnd[track] = NO_TEST;
            }
        }

        void takeTrains(Text text) {
            trains = text.found;
            System.arraycopy(text.read, 0, destinations, 0, trains);
        }

        // -- gaps

        boolean isSafe(int track) {
            gaps.start();
            passPart(track, 0, length[track]);
            return gaps.least >= settings[GAP];
        }

        boolean isSafeWith(int track, Text text) {
            gaps.start();
            passPart(track, 0, length[track]);
            for (int i = 0; i < text.found; i++) {
                gaps.pass(kindOf(text.read[i]));
            }
            return gaps.least >= settings[GAP];
        }

        int leastGap(int track) {
            gaps.start();
            passPart(track, 0, length[track]);
            return gaps.least == Gaps.NO_GAP ? NONE : gaps.least;
        }

        int unsafeTracks() {
            int sum = 0;
            for (int track = 0; track < tracks; track++) {
                if (!isSafe(track)) {
                    sum++;
                }
            }
            return sum;
        }

        private void passPart(int track, int start, int end) {
            for (int place = start; place < end; place++) {
                gaps.pass(kindOf(wagonAt(track, place)));
            }
        }

        // -- moves

        /** The minutes of a move, or the code that refuses it. */
        int costOrCode(int from, int to, int n) {
            if (!hasTrack(from) || !hasTrack(to) || from == to || !within(n, 1, MOST_PLACES)) {
                return BAD;
            }
            if (n > length[from] || !isSafeBehindMove(from, to, n)) {
                return STATE;
            }
            if (length[to] + n > capacity) {
                return FULL;
            }
            return minutesOf(from, to, n);
        }

        private boolean isSafeBehindMove(int from, int to, int n) {
            int stay = length[from] - n;
            gaps.start();
            passPart(from, 0, stay);
            if (gaps.least < settings[GAP]) {
                return false;
            }
            gaps.start();
            passPart(to, 0, length[to]);
            passPart(from, stay, length[from]);
            return gaps.least >= settings[GAP];
        }

        private int minutesOf(int from, int to, int n) {
            int minutes = settings[MOVE_TIME] + n + 2 * Math.abs(from - to);
            for (int place = length[from] - n; place < length[from]; place++) {
                if (kindOf(wagonAt(from, place)) == EXPLOSIVES) {
                    return minutes + 5;
                }
            }
            return minutes;
        }

        /** Makes a move that costOrCode() has not refused. */
        int drive(int from, int to, int n) {
            int minutes = minutesOf(from, to, n);
            shift(from, to, n);
            testEnd[from] = NO_TEST;
            testEnd[to] = NO_TEST;
            clock += minutes;
            moves++;
            moveMinutes += minutes;
            return minutes;
        }

        /** Only the wagons move, so that the search can take its trials back. */
        void shift(int from, int to, int n) {
            int first = from * MOST_PLACES + length[from] - n;
            System.arraycopy(wagons, first, wagons, to * MOST_PLACES + length[to], n);
            length[from] -= n;
            length[to] += n;
        }

        // -- brakes

        int testBrakes(int track) {
            int minutes = settings[TEST_TIME] + 2 * length[track];
            clock += minutes;
            testEnd[track] = clock;
            return minutes;
        }

        int testHoldsFor(int track) {
            if (testEnd[track] == NO_TEST) {
                return 0;
            }
            return Math.max(0, settings[TEST_HOLDS] - (clock - testEnd[track]));
        }

        // -- departures; what asks for the first destination is called only if there is a train

        boolean isForFirst(int track, int place) {
            return destinationOf(wagonAt(track, place)) == destinations[0];
        }

        private int forFirstOn(int track) {
            int sum = 0;
            for (int place = 0; place < length[track]; place++) {
                if (isForFirst(track, place)) {
                    sum++;
                }
            }
            return sum;
        }

        int forFirstInYard() {
            int sum = 0;
            for (int track = 0; track < tracks; track++) {
                sum += forFirstOn(track);
            }
            return sum;
        }

        /** The reason that speaks against a departure, 0 if none does. */
        int refusal(int track) {
            if (trains == 0) {
                return 1;
            }
            if (length[track] == 0) {
                return 2;
            }
            if (forFirstOn(track) < length[track]) {
                return 3;
            }
            if (forFirstInYard() > length[track]) {
                return 4;
            }
            if (!isSafe(track)) {
                return 5;
            }
            return testHoldsFor(track) == 0 ? 6 : 0;
        }

        int sendOff(int track) {
            int gone = length[track];
            length[track] = 0;
            testEnd[track] = NO_TEST;
            trainsGone++;
            wagonsGone += gone;
            trains--;
            System.arraycopy(destinations, 1, destinations, 0, trains);
            return gone;
        }

        int madeUpTrack() {
            if (trains == 0) {
                return NONE;
            }
            for (int track = 0; track < tracks; track++) {
                if (length[track] > 0 && forFirstOn(track) == length[track]) {
                    return forFirstInYard() == length[track] ? track : NONE;
                }
            }
            return NONE;
        }
    }

    /** Measures the gaps of wagons that pass by, from the buffer on. */
    private static final class Gaps {
        static final int NO_GAP = 99;

        int least;
        private int latestDanger;
        private int between;

        void start() {
            least = NO_GAP;
            latestDanger = COMMON;
            between = 0;
        }

        void pass(int kind) {
            if (kind == COMMON) {
                between++;
                return;
            }
            if (latestDanger != COMMON && latestDanger != kind) {
                least = Math.min(least, between);
            }
            latestDanger = kind;
            between = 0;
        }
    }

    /** The states that can be restored; a full ring overwrites its oldest one. */
    private static final class History {
        private final Yard[] states = new Yard[MOST_UNDONE];
        private int next;
        int count;

        void add(Yard yard) {
            if (states[next] == null) {
                states[next] = new Yard();
            }
            states[next].copyFrom(yard);
            next = (next + 1) % MOST_UNDONE;
            count = Math.min(count + 1, MOST_UNDONE);
        }

        boolean restore(Yard yard) {
            int latest = (next + MOST_UNDONE - 1) % MOST_UNDONE;
            if (count == 0 || states[latest] == null) {
                return false;
            }
            yard.copyFrom(states[latest]);
            next = latest;
            count--;
            return true;
        }
    }

    /** The text, what was read from it last, and the latest fault. */
    private static final class Text {
        private static final int BAD_BYTE = 1;
        private static final int END_BEHIND_DIGIT = 2;
        private static final int TOO_MANY_WAGONS = 3;
        private static final int TOO_MANY_TRAINS = 4;

        private static final int BETWEEN_WORDS = 0;
        private static final int BEHIND_DIGIT = 1;
        private static final int BEHIND_LETTER = 2;
        private static final int BEHIND_KIND = 3;

        private final int[] bytes = new int[MOST_BYTES];
        int length;
        final int[] read = new int[MOST_TRAINS];
        int found;
        int faultKind = NONE;
        int faultPlace = NONE;

        void append(int code) {
            bytes[length] = code;
            length++;
        }

        /** Puts wagons without a number into read; false if there is a fault. */
        boolean readWagons() {
            found = 0;
            int state = BETWEEN_WORDS;
            int many = 1;
            int destination = 0;
            for (int i = 0; i < length; i++) {
                int code = bytes[i];
                if (code == ' ' && state != BEHIND_DIGIT) {
                    state = BETWEEN_WORDS;
                    many = 1;
                } else if (within(code, '1', '8') && state == BETWEEN_WORDS) {
                    state = BEHIND_DIGIT;
                    many = code - '0';
                } else if (within(code, 'A', 'F') && (state == BETWEEN_WORDS || state == BEHIND_DIGIT)) {
                    if (found + many > MOST_PLACES) {
                        return foundFault(TOO_MANY_WAGONS, i);
                    }
                    state = BEHIND_LETTER;
                    destination = code - 'A';
                    found += many;
                    fillLatest(many, wagonOf(0, destination, COMMON));
                } else if ((code == 'f' || code == 'x') && state == BEHIND_LETTER) {
                    state = BEHIND_KIND;
                    fillLatest(many, wagonOf(0, destination, code == 'f' ? FUEL : EXPLOSIVES));
                } else {
                    return foundFault(BAD_BYTE, i);
                }
            }
            return state != BEHIND_DIGIT || foundFault(END_BEHIND_DIGIT, length);
        }

        private void fillLatest(int many, int wagon) {
            for (int i = found - many; i < found; i++) {
                read[i] = wagon;
            }
        }

        /** Puts destinations into read; false if there is a fault. */
        boolean readTrains() {
            found = 0;
            for (int i = 0; i < length; i++) {
                int code = bytes[i];
                if (code == ' ') {
                    continue;
                }
                if (!within(code, 'A', 'F')) {
                    return foundFault(BAD_BYTE, i);
                }
                if (found >= MOST_TRAINS) {
                    return foundFault(TOO_MANY_TRAINS, i);
                }
                read[found] = code - 'A';
                found++;
            }
            return true;
        }

        private boolean foundFault(int kind, int place) {
            faultKind = kind;
            faultPlace = place;
            return false;
        }
    }

    /** Some moves, one behind the other. */
    private static final class Row {
        int moves;
        int minutes;
        final int[] from = new int[MOST_MOVES];
        final int[] to = new int[MOST_MOVES];
        final int[] n = new int[MOST_MOVES];

        void clear() {
            moves = 0;
            minutes = 0;
        }

        void addLast(int moveFrom, int moveTo, int wagons, int cost) {
            from[moves] = moveFrom;
            to[moves] = moveTo;
            n[moves] = wagons;
            moves++;
            minutes += cost;
        }

        void dropLast(int cost) {
            moves--;
            minutes -= cost;
        }

        boolean isCheaperThan(Row other) {
            return minutes < other.minutes || minutes == other.minutes && moves < other.moves;
        }

        void copyFrom(Row other) {
            moves = other.moves;
            minutes = other.minutes;
            System.arraycopy(other.from, 0, from, 0, MOST_MOVES);
            System.arraycopy(other.to, 0, to, 0, MOST_MOVES);
            System.arraycopy(other.n, 0, n, 0, MOST_MOVES);
        }
    }

    /** Finds the cheapest row of moves by trying all that can still be the cheapest. */
    private static final class Search {
        final Row best = new Row();
        private boolean hasBest;
        private final Yard trial = new Yard();
        private final Row row = new Row();
        // Of the wagons for the next train on each track: all, those in one piece from the
        // buffer on, and those in one piece at the open end.
        private final int[] wanted = new int[MOST_TRACKS];
        private final int[] wantedInnermost = new int[MOST_TRACKS];
        private final int[] wantedOutermost = new int[MOST_TRACKS];

        /** Whether there is a row of at most so many moves; best is the cheapest one then. */
        boolean succeeds(Yard yard, int most) {
            hasBest = false;
            best.clear();
            row.clear();
            if (yard.trains == 0) {
                return false;
            }
            int wagons = yard.forFirstInYard();
            // More than a track holds can never be made up; trying all rows would only tell it late.
            if (wagons == 0 || wagons > yard.capacity) {
                return false;
            }
            trial.copyFrom(yard);
            seek(Math.min(most, MOST_MOVES));
            return hasBest;
        }

        private void seek(int movesLeft) {
            if (trial.madeUpTrack() != NONE) {
                keepIfCheaper();
                return;
            }
            int needed = movesNeeded();
            if (movesLeft <= 0 || needed > movesLeft || isTooDear(needed)) {
                return;
            }
            for (int from = 0; from < trial.tracks; from++) {
                int standing = trial.length[from];
                for (int to = 0; to < trial.tracks; to++) {
                    for (int n = 1; n <= standing; n++) {
                        int cost = trial.costOrCode(from, to, n);
                        if (cost >= 0) {
                            seekBehindMove(from, to, n, cost, movesLeft);
                        }
                    }
                }
            }
        }

        private void seekBehindMove(int from, int to, int n, int cost, int movesLeft) {
            trial.shift(from, to, n);
            row.addLast(from, to, n, cost);
            seek(movesLeft - 1);
            row.dropLast(cost);
            trial.shift(to, from, n);
        }

        /** Rows come in the order that the document asks for among equals, so the first one stays. */
        private void keepIfCheaper() {
            if (!hasBest || row.isCheaperThan(best)) {
                best.copyFrom(row);
                hasBest = true;
            }
        }

        private boolean isTooDear(int needed) {
            int cheapestMove = trial.settings[MOVE_TIME] + 1 + 2;
            return hasBest && row.minutes + needed * cheapestMove > best.minutes;
        }

        /** No row from here has fewer moves than this; asked for only to cut the search short. */
        private int movesNeeded() {
            for (int track = 0; track < trial.tracks; track++) {
                countWanted(track);
            }
            int least = movesNeededFor(0);
            for (int target = 1; target < trial.tracks; target++) {
                least = Math.min(least, movesNeededFor(target));
            }
            return least;
        }

        private void countWanted(int track) {
            int all = 0;
            int innermost = 0;
            int outermost = 0;
            for (int place = 0; place < trial.length[track]; place++) {
                if (trial.isForFirst(track, place)) {
                    all++;
                    outermost++;
                    if (innermost == place) {
                        innermost++;
                    }
                } else {
                    outermost = 0;
                }
            }
            wanted[track] = all;
            wantedInnermost[track] = innermost;
            wantedOutermost[track] = outermost;
        }

        /**
         * Each other track with wanted wagons sends once, the target too if others stand on it. If
         * no track sends twice, a wagon takes along for good what stands outside of it; so where
         * that must not be, one move more is needed.
         */
        private int movesNeededFor(int target) {
            int senders = wantedInnermost[target] < trial.length[target] ? 1 : 0;
            boolean mixed = wantedInnermost[target] < wanted[target];
            for (int track = 0; track < trial.tracks; track++) {
                if (track != target && wanted[track] > 0) {
                    senders++;
                    mixed = mixed || wantedOutermost[track] < wanted[track];
                }
            }
            return mixed ? senders + 1 : senders;
        }
    }
}
