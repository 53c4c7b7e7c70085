import java.util.Random;

/** The cheapest rows of many small yards, in which equals and detours are frequent, against Model. */
public final class CheapestTest {
    private static final Checks CHECKS = new Checks();
    private static final String[] KINDS = {"", "", "", "f", "x"};

    private CheapestTest() {
    }

    public static void main(String[] args) {
        for (int run = 1; run <= 8000; run++) {
            play(run);
        }
        CHECKS.close();
    }

    private static void play(int run) {
        Random dice = new Random(run);
        ShuntYard yard = new ShuntYard();
        Model model = new Model();
        int tracks = 2 + dice.nextInt(3);
        int capacity = dice.nextInt(50) == 0 ? 8 : 1 + dice.nextInt(4);
        yard.begin(tracks, capacity);
        model.begin(tracks, capacity);
        set(yard, model, 2, dice.nextInt(3) > 0 ? 1 : 1 + dice.nextInt(20));
        set(yard, model, 0, dice.nextInt(3));
        for (int track = 0; track < tracks; track++) {
            write(yard, model, wagons(dice, dice.nextInt(capacity + 1)));
            yard.arrive(track);
            model.arrive(track);
        }
        write(yard, model, "A");
        yard.list();
        model.list();
        // A gap that is told later leaves tracks behind that are not safe.
        set(yard, model, 0, dice.nextInt(4));
        compare("run " + run, yard, model);
    }

    private static void compare(String run, ShuntYard yard, Model model) {
        for (int most = 0; most <= 3; most++) {
            int[] wants = model.cheapest(most);
            for (int what = 0; what <= 4; what++) {
                CHECKS.due(run + ": cheapest " + most + " " + what, yard.cheapest(most, what), wants[what]);
            }
        }
        CHECKS.due(run + ": makeUp", yard.makeUp(3), model.makeUp(3));
        for (int what = 0; what <= 14; what++) {
            CHECKS.due(run + ": told " + what, yard.told(what), model.told(what));
        }
        for (int track = 0; track < model.told(0); track++) {
            for (int place = 0; place < model.track(track, 0); place++) {
                CHECKS.due(run + ": wagon " + track + " " + place, yard.wagon(track, place, 0),
                        model.wagon(track, place, 0));
            }
        }
    }

    private static void set(ShuntYard yard, Model model, int setting, int value) {
        yard.set(setting, value);
        model.set(setting, value);
    }

    private static String wagons(Random dice, int many) {
        StringBuilder text = new StringBuilder();
        for (int i = 0; i < many; i++) {
            text.append((char) ('A' + dice.nextInt(2))).append(KINDS[dice.nextInt(KINDS.length)]).append(' ');
        }
        return text.toString();
    }

    private static void write(ShuntYard yard, Model model, String text) {
        Checks.put(yard, text);
        model.wipe();
        for (int i = 0; i < text.length(); i++) {
            model.write(text.charAt(i));
        }
    }
}
