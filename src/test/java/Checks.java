/** Counts answers that are not as due, and has the helpers that several tests use. */
final class Checks {
    private int made;
    private int wrong;

    void due(String call, long got, long want) {
        made++;
        if (got != want) {
            wrong++;
            if (wrong <= 50) {
                System.out.println(call + " answered " + got + ", due is " + want);
            }
        }
    }

    void dueFloat(String call, float got, float want) {
        due(call + " (as bits)", Float.floatToIntBits(got), Float.floatToIntBits(want));
    }

    void dueTrue(String what, boolean holds) {
        due(what, holds ? 1 : 0, 1);
    }

    /** Ends the test's process, with the exit code 1 if an answer was wrong or there was none. */
    void close() {
        System.out.println(made + " answers, " + wrong + " of them not as due");
        System.exit(wrong == 0 && made > 0 ? 0 : 1);
    }

    static void put(ShuntYard yard, String text) {
        yard.wipe();
        for (int i = 0; i < text.length(); i++) {
            yard.write(text.charAt(i));
        }
    }

    static int arrive(ShuntYard yard, int track, String text) {
        put(yard, text);
        return yard.arrive(track);
    }

    static int list(ShuntYard yard, String text) {
        put(yard, text);
        return yard.list();
    }

    /** The wagons of a track from the buffer on, in the form "0A 1Bf 2Cx". */
    static String standing(ShuntYard yard, int track) {
        StringBuilder row = new StringBuilder();
        int wagons = yard.track(track, 0);
        for (int place = 0; place < wagons; place++) {
            row.append(place == 0 ? "" : " ").append(yard.wagon(track, place, 0));
            row.append((char) ('A' + yard.wagon(track, place, 1)));
            row.append(new String[] {"", "f", "x"}[yard.wagon(track, place, 2)]);
        }
        return row.toString();
    }

    void dueStanding(String when, ShuntYard yard, int track, String want) {
        String got = standing(yard, track);
        made++;
        if (!got.equals(want)) {
            wrong++;
            System.out.println(when + ": on track " + track + " stands '" + got + "', due is '" + want + "'");
        }
    }
}
