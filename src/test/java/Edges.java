import java.util.function.Supplier;

/** What the tests of the edges share: yards made from texts, and all that can be seen of one. */
abstract class Edges {
    static final int BAD = -1, STATE = -2, FULL = -3, NONE = -9;
    static final int LEAST_INT = Integer.MIN_VALUE, GREATEST_INT = Integer.MAX_VALUE;
    static final Checks C = new Checks();

    /** A call on a yard, with its answer. */
    interface Call {
        int on(ShuntYard x);
    }

    /** The sorts of things that a call may leave as they are. */
    enum Part { PRESENT, CHANGES, UNDONE, IMAGES, TEXT, LATEST }

    static void due(String call, long got, long want) {
        C.due(call, got, want);
    }

    static void put(ShuntYard x, String text) {
        Checks.put(x, text);
    }

    static int arrive(ShuntYard x, int track, String text) {
        return Checks.arrive(x, track, text);
    }

    static int list(ShuntYard x, String text) {
        return Checks.list(x, text);
    }

    /** A yard with a text of wagons on each track. */
    static ShuntYard yardOf(int capacity, String... tracks) {
        return yardWithGap(1, capacity, tracks);
    }

    /** A yard whose gap may be one that its wagons do not keep. */
    static ShuntYard yardWithGap(int gap, int capacity, String... tracks) {
        ShuntYard x = new ShuntYard();
        x.begin(tracks.length, capacity);
        x.set(0, 0);
        for (int track = 0; track < tracks.length; track++) {
            C.dueTrue("arrive of " + tracks[track], arrive(x, track, tracks[track]) >= 0);
        }
        x.set(0, gap);
        x.wipe();
        return x;
    }

    static String times(int n, String part) {
        return part.repeat(n);
    }

    /** Asks for one edge: the last value that is allowed, and the first that is not. */
    static void dueEdge(String what, int last, int lastWant, int first, int firstWant) {
        due(what + ", the last that is allowed", last, lastWant);
        due(what + ", the first that is not", first, firstWant);
    }

    static void dueTold(String when, ShuntYard x, int what, int want) {
        due(when + ": told(" + what + ")", x.told(what), want);
    }

    static void dueTrack(String when, ShuntYard x, int track, int what, int want) {
        due(when + ": track(" + track + ", " + what + ")", x.track(track, what), want);
    }

    static void dueStanding(String when, ShuntYard x, int track, String want) {
        C.dueStanding(when, x, track, want);
    }

    static void dueAlike(String when, String got, String want) {
        C.dueTrue(when + ": seen is " + got + ", due is " + want, got.equals(want));
    }

    /** What a call leaves of some parts is what it found. */
    static void dueUnchanged(String when, Supplier<ShuntYard> made, Call call, Part... parts) {
        for (Part part : parts) {
            dueAlike(when + " leaves the part " + part, seen(part, after(made, call)), seen(part, made));
        }
    }

    static Supplier<ShuntYard> after(Supplier<ShuntYard> made, Call call) {
        return () -> {
            ShuntYard x = made.get();
            call.on(x);
            return x;
        };
    }

    /** Looks at one part of a yard made for this, since some looks need changes. */
    static String seen(Part part, Supplier<ShuntYard> made) {
        ShuntYard x = made.get();
        switch (part) {
            case PRESENT: return present(x);
            case CHANGES: return "" + x.told(14);
            case UNDONE: return undone(x);
            case IMAGES: return x.back(0) + present(x) + x.back(1) + present(x);
            case TEXT: return textOf(x);
            default: return x.fault(0) + " " + x.fault(1) + " " + x.told(11);
        }
    }

    /** All that changes record, as far as it can be asked. */
    static String present(ShuntYard x) {
        StringBuilder all = new StringBuilder();
        for (int what = 0; what <= 12; what++) {
            all.append(what == 11 ? "" : x.told(what) + " ");
        }
        for (int i = 0; i < 4; i++) {
            all.append(i == 0 ? "settings " : " ").append(x.setting(i));
        }
        int trains = x.told(4);
        for (int k = 0; k < trains; k++) {
            all.append(k == 0 ? " trains " : "").append(x.train(k));
        }
        int tracks = x.told(0);
        for (int track = 0; track < tracks; track++) {
            all.append(" [").append(Checks.standing(x, track)).append(" tested ").append(x.track(track, 2)).append(']');
        }
        return all.append(x.mean()).append('\n').toString();
    }

    /** The states that can be restored, the latest one first. */
    private static String undone(ShuntYard x) {
        StringBuilder all = new StringBuilder();
        for (int left = x.undo(), i = 0; left >= 0 && i < 10; left = x.undo(), i++) {
            all.append(left).append(": ").append(present(x));
        }
        return all.toString();
    }

    private static String textOf(ShuntYard x) {
        x.begin(4, 8);
        String all = x.told(13) + " bytes; wagons " + x.arrive(0) + " " + Checks.standing(x, 0);
        all += "; trains " + x.list();
        for (int k = 0; k < x.told(4); k++) {
            all += " " + x.train(k);
        }
        // A byte that cannot stand at its place is seen by the fault behind it.
        return all + "; faults " + x.fault(0) + " " + x.fault(1);
    }
}
