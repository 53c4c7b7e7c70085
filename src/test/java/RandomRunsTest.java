import java.util.Random;

/** Runs of calls, the same in each session, whose answers must be those of Model. */
public final class RandomRunsTest {
    private static final Checks CHECKS = new Checks();
    private static final int CALLS = 512;

    private final int run;
    private final Random dice;
    private final ShuntYard yard = new ShuntYard();
    private final Model model = new Model();
    private int calls;

    private RandomRunsTest(int run) {
        this.run = run;
        this.dice = new Random(run);
    }

    public static void main(String[] args) {
        for (int run = 1; run <= 400; run++) {
            new RandomRunsTest(run).play();
        }
        CHECKS.close();
    }

    private void due(String name, int got, int want, int... arguments) {
        calls++;
        StringBuilder call = new StringBuilder(name);
        for (int argument : arguments) {
            call.append(' ').append(argument);
        }
        CHECKS.due("run " + run + ", call " + calls + ": " + call, got, want);
    }

    /** Mostly within the range, now and then just outside of it, seldom far away. */
    private int about(int least, int greatest) {
        switch (dice.nextInt(40)) {
            case 0: return least - 1;
            case 1: return greatest + 1;
            case 2: return new int[] {Integer.MIN_VALUE, Integer.MAX_VALUE, -1000000}[dice.nextInt(3)];
            default: return least + dice.nextInt(greatest - least + 1);
        }
    }

    private int someTrack() {
        return about(0, model.told(0) - 1);
    }

    private void play() {
        begin();
        while (calls < CALLS - 120) {
            step();
            if (dice.nextInt(12) == 0) {
                askMuch();
            }
        }
        askMuch();
    }

    private void step() {
        int what = dice.nextInt(100);
        if (what < 2) {
            begin();
        } else if (what < 20) {
            putSome(randomWagons());
            int track = someTrack();
            due("arrive", yard.arrive(track), model.arrive(track), track);
        } else if (what < 24) {
            putSome(randomTrains());
            due("list", yard.list(), model.list());
        } else if (what < 27) {
            putSome(noise());
            int track = someTrack();
            due("arrive", yard.arrive(track), model.arrive(track), track);
            due("list", yard.list(), model.list());
        } else if (what < 55) {
            moveOrCost();
        } else if (what < 62) {
            int track = someTrack();
            due("test", yard.test(track), model.test(track), track);
        } else if (what < 68) {
            int track = someTrack();
            due("depart", yard.depart(track), model.depart(track), track);
        } else if (what < 80) {
            makeUpAndGo();
        } else {
            stepAside(what);
        }
    }

    private void stepAside(int what) {
        if (what < 84) {
            int setting = about(0, 3);
            int value = setting == 0 ? about(0, 3)
                    : setting == 1 ? (dice.nextBoolean() ? about(10, 60) : about(10, 600))
                    : setting == 2 ? (dice.nextBoolean() ? about(1, 2) : about(1, 20)) : about(0, 30);
            due("set", yard.set(setting, value), model.set(setting, value), setting, value);
        } else if (what < 87) {
            int minutes = dice.nextInt(3) == 0 ? about(1, 1000) : about(1, 30);
            due("pause", yard.pause(minutes), model.pause(minutes), minutes);
        } else if (what < 93) {
            for (int i = dice.nextInt(5) == 0 ? 10 : 1; i > 0; i--) {
                due("undo", yard.undo(), model.undo());
            }
        } else if (what < 96) {
            int i = about(0, 1);
            due("keep", yard.keep(i), model.keep(i), i);
        } else if (what < 99) {
            int i = about(0, 1);
            due("back", yard.back(i), model.back(i), i);
        } else {
            for (int i = 0; i < 64 && calls < CALLS - 120; i++) {
                int code = about(32, 126);
                due("write", yard.write(code), model.write(code), code);
            }
        }
    }

    private void begin() {
        int tracks = about(2, 4);
        // Large yards are seldom, for the model tries all rows of moves.
        int capacity = dice.nextInt(8) == 0 ? about(1, 8) : about(1, 5);
        due("begin", yard.begin(tracks, capacity), model.begin(tracks, capacity), tracks, capacity);
    }

    private void moveOrCost() {
        int from = someTrack();
        int to = someTrack();
        int n = dice.nextInt(3) > 0 ? about(1, 3) : about(1, 8);
        due("cost", yard.cost(from, to, n), model.cost(from, to, n), from, to, n);
        if (dice.nextBoolean()) {
            due("move", yard.move(from, to, n), model.move(from, to, n), from, to, n);
        }
    }

    private void makeUpAndGo() {
        int most = about(0, 3);
        int what = about(0, 4);
        due("cheapest", yard.cheapest(most, what), model.cheapest(most, what), most, what);
        if (dice.nextBoolean()) {
            return;
        }
        for (int i = 0; i < 5; i++) {
            due("cheapest", yard.cheapest(most, i), model.cheapest(most, i), most, i);
        }
        due("makeUp", yard.makeUp(most), model.makeUp(most), most);
        int track = model.told(12);
        if (track >= 0 && dice.nextInt(3) > 0) {
            due("test", yard.test(track), model.test(track), track);
            due("depart", yard.depart(track), model.depart(track), track);
        }
    }

    private String randomWagons() {
        StringBuilder text = new StringBuilder();
        int words = dice.nextInt(4);
        for (int i = 0; i < words; i++) {
            text.append(dice.nextInt(4) == 0 ? "" + (1 + dice.nextInt(3)) : "");
            text.append((char) ('A' + dice.nextInt(3)));
            text.append(new String[] {"", "", "", "f", "x"}[dice.nextInt(5)]);
            text.append(dice.nextInt(5) == 0 ? "  " : " ");
        }
        return text.toString();
    }

    private String randomTrains() {
        StringBuilder text = new StringBuilder();
        int trains = dice.nextInt(7);
        for (int i = 0; i < trains; i++) {
            text.append((char) ('A' + dice.nextInt(dice.nextInt(4) == 0 ? 6 : 3)));
            text.append(dice.nextInt(8) == 0 ? " " : "");
        }
        return text.toString();
    }

    private String noise() {
        String bytes = dice.nextBoolean() ? "12 ABfx" : "0189 AFGafx  8";
        StringBuilder text = new StringBuilder();
        int length = dice.nextInt(14);
        for (int i = 0; i < length; i++) {
            text.append(bytes.charAt(dice.nextInt(bytes.length())));
        }
        return text.toString();
    }

    private void putSome(String text) {
        due("wipe", yard.wipe(), model.wipe());
        for (int i = 0; i < text.length(); i++) {
            int code = text.charAt(i);
            due("write", yard.write(code), model.write(code), code);
        }
    }

    private void askMuch() {
        for (int what = 0; what <= 14; what++) {
            due("told", yard.told(what), model.told(what), what);
        }
        CHECKS.dueFloat("run " + run + ", call " + calls + ": mean", yard.mean(), model.mean());
        int track = someTrack();
        for (int what = -1; what <= 5; what++) {
            due("track", yard.track(track, what), model.track(track, what), track, what);
        }
        for (int i = 0; i < 4; i++) {
            int place = about(0, 8);
            int what = about(0, 2);
            due("wagon", yard.wagon(track, place, what), model.wagon(track, place, what), track, place, what);
            int number = about(0, Math.max(0, model.told(10)));
            due("find", yard.find(number, what), model.find(number, what), number, what);
            int k = about(0, 10);
            due("train", yard.train(k), model.train(k), k);
            due("setting", yard.setting(i), model.setting(i), i);
        }
        int fault = about(0, 1);
        due("fault", yard.fault(fault), model.fault(fault), fault);
        int wrong = about(0, 14);
        due("told", yard.told(wrong), model.told(wrong), wrong);
        due("setting", yard.setting(wrong), model.setting(wrong), wrong);
    }
}
