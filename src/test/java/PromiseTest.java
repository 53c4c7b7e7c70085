/** Each promise of the document: ordinary calls, the edges that it names, and wrong arguments. */
public final class PromiseTest extends Edges {
    private static final int[] WRONG = {-1, LEAST_INT, GREATEST_INT};

    private PromiseTest() {
    }

    public static void main(String[] args) {
        p1NewObject();
        p2Begin();
        p3Set();
        p4Arrive();
        p4TextAsWagons();
        p5List();
        p6Move();
        p7Test();
        p8Pause();
        p9Depart();
        p10MakeUp();
        p11Undo();
        p12And13Text();
        p14Fault();
        p15Told();
        p16Setting();
        p17Track();
        p18Wagon();
        p19Train();
        p20Find();
        p21Mean();
        p22Cost();
        p23Cheapest();
        p23TiesAmongRows();
        p24Keep();
        p25Back();
        errorCodesChangeNothing();
        C.close();
    }

    /** A yard with a text of wagons on each track, by one change for each and one for begin. */
    private static ShuntYard filledYard(int capacity, String... tracks) {
        ShuntYard x = new ShuntYard();
        x.begin(tracks.length, capacity);
        fill(x, tracks);
        return x;
    }

    private static void fill(ShuntYard x, String... tracks) {
        for (int track = 0; track < tracks.length; track++) {
            C.dueTrue("arrive(" + track + ") of " + tracks[track], arrive(x, track, tracks[track]) >= 0);
        }
    }

    private static void dueAllTold(String when, ShuntYard x, int... wants) {
        for (int what = 0; what < wants.length; what++) {
            C.due(when + ": told(" + what + ")", x.told(what), wants[what]);
        }
    }

    // what is told of a yard before anything came; changes: the undo count
    private static void dueEmpty(String when, ShuntYard x, int tracks, int capacity, int reason, int changes) {
        dueAllTold(when, x, tracks, capacity, 0, 0, 0, 0, 0, 0, 0, 0, 0, reason, NONE, 0, changes);
        C.dueFloat(when + ": mean()", x.mean(), 0.0f);
    }

    private static void p1NewObject() {
        ShuntYard x = new ShuntYard();
        dueEmpty("new", x, 3, 6, NONE, 0);
        C.due("new: fault(0)", x.fault(0), NONE);
        C.due("new: fault(1)", x.fault(1), NONE);
        C.due("new: undo()", x.undo(), STATE);
        C.due("new: back(0)", x.back(0), STATE);
        C.due("new: back(1)", x.back(1), STATE);
        C.due("new: train(0)", x.train(0), NONE);
        C.due("new: wipe()", x.wipe(), 0);
        int[] settings = {1, 120, 4, 5};
        for (int i = 0; i < 4; i++) {
            C.due("new: setting(" + i + ")", x.setting(i), settings[i]);
        }
        for (int track = 0; track < 3; track++) {
            int[] wants = {0, 1, 0, NONE, 1};
            for (int what = 0; what < 5; what++) {
                C.due("new: track(" + track + ", " + what + ")", x.track(track, what), wants[what]);
            }
        }
        C.due("new: track(3, 0)", x.track(3, 0), BAD);
    }

    private static void p2Begin() {
        ShuntYard x = new ShuntYard();
        for (int[] wrong : new int[][] {{1, 6}, {5, 6}, {3, 0}, {3, 9}, {-1, 6}, {Integer.MAX_VALUE, 1},
            {2, Integer.MIN_VALUE}}) {
            C.due("begin" + wrong[0] + "," + wrong[1], x.begin(wrong[0], wrong[1]), BAD);
        }
        dueEmpty("after wrong begins", x, 3, 6, NONE, 0);
        for (int tracks = 2; tracks <= 4; tracks++) {
            for (int capacity = 1; capacity <= 8; capacity++) {
                C.due("begin", x.begin(tracks, capacity), 0);
                C.due("told(0)", x.told(0), tracks);
                C.due("told(1)", x.told(1), capacity);
                C.due("last track", x.track(tracks - 1, 0), 0);
                C.due("no more tracks", x.track(tracks, 0), BAD);
            }
        }
        beginForgetsTheYardOnly();
    }

    private static void beginForgetsTheYardOnly() {
        ShuntYard x = filledYard(8, "2A", "B", "");
        C.due("depart with reason", x.depart(0), STATE);
        x.set(0, 2);
        list(x, "AB");
        x.move(0, 2, 1);
        x.move(2, 0, 1);
        x.test(0);
        x.depart(0);
        x.keep(1);
        put(x, "G");
        x.arrive(0);
        arrive(x, 0, "4C");
        x.test(0);
        C.due("begin tells the wagons", x.begin(4, 5), 5);
        x.wipe();
        dueEmpty("begun anew", x, 4, 5, 1, 8);
        C.due("the setting stays", x.setting(0), 2);
        C.due("the fault stays", x.fault(0), 1);
        C.due("the list is empty", x.train(0), NONE);
        C.due("no test holds", x.track(0, 2), 0);
        C.due("no wagon", x.wagon(0, 0, 0), NONE);
        arrive(x, 1, "B");
        C.due("numbers from 0 again", x.wagon(1, 0, 0), 0);
        C.due("no test holds with wagons", x.track(0, 2), 0);
        C.due("undo arrive", x.undo(), 7);
        C.due("undo begin", x.undo(), 6);
        C.due("the clock is back", x.told(2) > 0 ? 1 : 0, 1);
        C.dueStanding("undone begin", x, 0, "3C 4C 5C 6C");
        C.due("the image stays", x.back(1), 1);
        put(x, "AB");
        x.begin(2, 2);
        C.due("the text stays", x.told(13), 2);
        C.due("the list of the text", x.list(), 2);
        C.due("begin again", x.begin(2, 2), 0);
        C.due("the list is gone", x.told(4), 0);
    }

    private static void p3Set() {
        ShuntYard x = new ShuntYard();
        int[] first = {1, 120, 4, 5}, least = {0, 10, 1, 0}, greatest = {3, 600, 20, 30};
        for (int i = 0; i < 4; i++) {
            for (int wrong : new int[] {least[i] - 1, greatest[i] + 1, Integer.MIN_VALUE, Integer.MAX_VALUE}) {
                C.due("set(" + i + ", " + wrong + ")", x.set(i, wrong), BAD);
            }
            C.due("set(" + i + ", least)", x.set(i, least[i]), first[i]);
            C.due("setting(" + i + ")", x.setting(i), least[i]);
            C.due("set(" + i + ", greatest)", x.set(i, greatest[i]), least[i]);
            C.due("setting(" + i + ")", x.setting(i), greatest[i]);
        }
        for (int wrong : new int[] {-1, 4, Integer.MIN_VALUE, Integer.MAX_VALUE}) {
            C.due("set(" + wrong + ", 10)", x.set(wrong, 10), BAD);
        }
        C.due("eight changes", x.told(14), 8);
        x.undo();
        C.due("undone set", x.setting(3), 0);

        ShuntYard y = filledYard(6, "Af B Ax", "");
        C.due("set to the same is a change", y.set(0, 1), 1);
        C.due("changes", y.told(14), 4);
        C.due("safe", y.told(5), 0);
        y.set(0, 2);
        C.due("not safe", y.told(5), 1);
        C.dueStanding("stays as it is", y, 0, "0Af 1B 2Ax");
    }

    private static void p4Arrive() {
        ShuntYard x = new ShuntYard();
        C.due("first wagons", arrive(x, 1, "2A Bf C Dx"), 5);
        C.dueStanding("first wagons", x, 1, "0A 1A 2Bf 3C 4Dx");
        C.due("the text stays", x.told(13), 10);
        C.due("behind them", arrive(x, 1, "E"), 6);
        C.dueStanding("behind them", x, 1, "0A 1A 2Bf 3C 4Dx 5E");
        C.due("more than C", arrive(x, 1, "A"), FULL);
        C.due("another track", x.arrive(0), 1);
        C.due("it takes no time", x.told(2), 0);
        C.due("no wagons on a full track", arrive(x, 1, "  "), 6);
        C.due("changes: also if none came", x.told(14), 4);
        for (int wrong : new int[] {-1, 3, Integer.MIN_VALUE, Integer.MAX_VALUE}) {
            C.due("arrive(" + wrong + ")", x.arrive(wrong), BAD);
        }
        put(x, "G");
        C.due("BAD before STATE", x.arrive(3), BAD);
        C.due("fault", x.arrive(1), STATE);
        C.due("fault and FULL", arrive(x, 1, "6A Q"), STATE);
        C.due("neither safe nor room", arrive(x, 1, "Af Ax"), STATE);
        C.due("wagons in the yard", x.told(3), 7);
        C.due("wagons that came", x.told(10), 7);

        ShuntYard y = filledYard(8, "8A", "");
        C.due("gap seen beyond the places", arrive(y, 0, "6A Af Ax"), STATE);
        C.due("safe, but too many", arrive(y, 0, "8A"), FULL);
        C.due("eight of eight", y.track(0, 0), 8);
        arriveAtAGap();
        arriveAndBrakes();
    }

    private static void arriveAtAGap() {
        ShuntYard x = filledYard(8, "Af", "Ax", "");
        C.due("explosives behind fuel", arrive(x, 0, "Bx"), STATE);
        C.due("fuel behind explosives", arrive(x, 1, "Bf"), STATE);
        C.due("fuel behind fuel", arrive(x, 0, "Bf"), 2);
        C.due("with a gap", arrive(x, 0, "B Bx"), 4);
        x.set(0, 2);
        C.due("no wagon on a track that is not safe", arrive(x, 0, ""), STATE);
        C.due("a common one on it", arrive(x, 0, "A"), STATE);
        C.due("two between", arrive(x, 1, "2A Af"), 4);
        x.set(0, 0);
        C.due("without a gap", arrive(x, 2, "Af Ax Af"), 3);
    }

    private static void arriveAndBrakes() {
        ShuntYard x = filledYard(8, "2A", "");
        x.test(0);
        C.due("holds", x.track(0, 2), 120);
        arrive(x, 0, " ");
        C.due("holds if none comes", x.track(0, 2), 120);
        arrive(x, 1, "A");
        C.due("holds if one comes elsewhere", x.track(0, 2), 120);
        arrive(x, 0, "A");
        C.due("holds no more", x.track(0, 2), 0);
        x.undo();
        C.due("holds again", x.track(0, 2), 120);
    }

    private static void dueWagons(String text, String want) {
        ShuntYard x = new ShuntYard();
        x.begin(2, 8);
        C.dueTrue("arrive of '" + text + "'", arrive(x, 0, text) >= 0);
        C.dueStanding("arrive of '" + text + "'", x, 0, want);
        C.due("no fault in '" + text + "'", x.fault(0), NONE);
    }

    private static void dueFault(String text, boolean wagons, int kind, int place) {
        ShuntYard x = new ShuntYard();
        put(x, text);
        C.due((wagons ? "arrive" : "list") + " of '" + text + "'", wagons ? x.arrive(0) : x.list(), STATE);
        C.due("fault(0) of '" + text + "'", x.fault(0), kind);
        C.due("fault(1) of '" + text + "'", x.fault(1), place);
        C.due("no change by '" + text + "'", x.told(14), 0);
    }

    private static void p4TextAsWagons() {
        dueWagons("", "");
        dueWagons("   ", "");
        dueWagons("A", "0A");
        dueWagons("  F  ", "0F");
        dueWagons("1Bf", "0Bf");
        dueWagons("2Bf A", "0Bf 1Bf 2A");
        dueWagons(" 3C   2Dx ", "0C 1C 2C 3Dx 4Dx");
        dueWagons("8E", "0E 1E 2E 3E 4E 5E 6E 7E");
        dueWagons("7A Fx", "0A 1A 2A 3A 4A 5A 6A 7Fx");
        dueFault("G", true, 1, 0);
        dueFault("@", true, 1, 0);
        dueFault("a", true, 1, 0);
        dueFault("0A", true, 1, 0);
        dueFault("9A", true, 1, 0);
        dueFault("12A", true, 1, 1);
        dueFault("2 A", true, 1, 1);
        dueFault("2f", true, 1, 1);
        dueFault("f", true, 1, 0);
        dueFault(" x", true, 1, 1);
        dueFault("A f", true, 1, 2);
        dueFault("AB", true, 1, 1);
        dueFault("A2", true, 1, 1);
        dueFault("A2B", true, 1, 1);
        dueFault("Aff", true, 1, 2);
        dueFault("Afx", true, 1, 2);
        dueFault("AfB", true, 1, 2);
        dueFault("Ax3", true, 1, 2);
        dueFault("Ag", true, 1, 1);
        dueFault("3", true, 2, 1);
        dueFault("A  8", true, 2, 4);
        dueFault("8A B", true, 3, 3);
        dueFault("8A 2B", true, 3, 4);
        dueFault("8A 2", true, 2, 4);
        dueFault("8A 2G", true, 1, 4);
        dueFault("A B C D E F A B C !", true, 3, 16);
        dueFault("4A 5A G", true, 3, 4);
        dueFault("! 8A B", true, 1, 0);
    }

    private static void p5List() {
        ShuntYard x = new ShuntYard();
        C.due("list", list(x, " A FB  C "), 4);
        int[] wants = {0, 5, 1, 2, NONE};
        for (int k = 0; k < wants.length; k++) {
            C.due("train(" + k + ")", x.train(k), wants[k]);
        }
        C.due("the text stays", x.told(13), 9);
        C.due("ten trains", list(x, "ABCDEFABCD   "), 10);
        C.due("train(9)", x.train(9), 3);
        C.due("changes", x.told(14), 2);
        C.due("a faulty list", list(x, "AB1"), STATE);
        C.due("the list stays", x.told(4), 10);
        C.due("changes then", x.told(14), 2);
        C.due("an empty list", list(x, ""), 0);
        C.due("is a change", x.told(14), 3);
        C.due("no train", x.train(0), NONE);
        x.undo();
        C.due("undone", x.told(4), 10);
        dueFault("ABg", false, 1, 2);
        dueFault("Af", false, 1, 1);
        dueFault("2A", false, 1, 0);
        dueFault("A@", false, 1, 1);
        dueFault("ABCDEFABCDE", false, 4, 10);
        dueFault(" ABCDEF ABCD  A", false, 4, 14);
        dueFault("ABCDEFABCD1", false, 1, 10);
        dueFault("ABCDEFABCDA1", false, 4, 10);
    }

    private static void p6Move() {
        ShuntYard x = filledYard(6, "A B C D", "E", "", "");
        C.due("three wagons", x.move(0, 1, 3), 4 + 3 + 2);
        C.dueStanding("in the same order", x, 1, "4E 1B 2C 3D");
        C.dueStanding("one stays", x, 0, "0A");
        C.due("far", x.move(1, 3, 2), 4 + 2 + 4);
        C.due("back", x.move(3, 0, 1), 4 + 1 + 6);
        C.due("the clock", x.told(2), 30);
        C.due("moves", x.told(6), 3);
        C.due("minutes", x.told(7), 30);
        C.due("changes", x.told(14), 8);
        for (int[] wrong : new int[][] {{-1, 0, 1}, {4, 0, 1}, {0, -1, 1}, {0, 4, 1}, {1, 1, 1}, {0, 1, 0}, {0, 1, 9},
            {0, 1, -1}, {Integer.MIN_VALUE, Integer.MAX_VALUE, 1}, {0, 1, Integer.MAX_VALUE}, {2, 2, 9}}) {
            C.due("move " + wrong[0] + " " + wrong[1] + " " + wrong[2], x.move(wrong[0], wrong[1], wrong[2]), BAD);
        }
        C.due("not so many", x.move(0, 1, 3), STATE);
        C.due("none", x.move(2, 1, 1), STATE);
        x.set(2, 20);
        C.due("another setting", x.move(0, 1, 1), 20 + 1 + 2);
        moveToAFullTrack();
        moveDangerousOnes();
        moveAndBrakes();
    }

    private static void moveToAFullTrack() {
        ShuntYard x = filledYard(3, "3A", "2B");
        C.due("too many", x.move(0, 1, 2), FULL);
        C.due("not so many before FULL", x.move(0, 1, 4), STATE);
        C.due("full", x.move(0, 1, 1), 7);
        C.due("none more", x.move(0, 1, 1), FULL);
        ShuntYard y = filledYard(3, "A Bf", "2B Bx");
        C.due("not safe before FULL", y.move(0, 1, 1), STATE);
        C.due("FULL with a gap", y.move(0, 1, 2), FULL);
        ShuntYard z = filledYard(8, "8A", "8A");
        C.due("eight more", z.move(0, 1, 8), FULL);
    }

    private static void moveDangerousOnes() {
        ShuntYard x = filledYard(8, "A Bx C", "Df", "");
        C.due("a common one of them", x.move(0, 2, 1), 4 + 1 + 4);
        C.due("explosives", x.move(0, 2, 1), 4 + 1 + 4 + 5);
        C.due("two explosives cost 5 once", filledYard(8, "2Ax", "").move(0, 1, 2), 4 + 2 + 2 + 5);
        C.due("the inner one has explosives", filledYard(8, "Ax A", "").move(0, 1, 2), 4 + 2 + 2 + 5);
        C.due("fuel costs no more", filledYard(8, "Af", "").move(0, 1, 1), 4 + 1 + 2);
        C.due("explosives to fuel", x.move(2, 1, 1), STATE);
        C.due("with a common one between", x.move(0, 1, 1), 7);
        C.due("then it goes", x.move(2, 1, 1), 4 + 1 + 2 + 5);

        ShuntYard y = filledYard(8, "Af B Ax C", "", "D");
        y.set(0, 2);
        C.due("what stays is not safe", y.move(0, 1, 1), STATE);
        C.due("what comes is not safe", y.move(0, 1, 4), STATE);
        C.due("to a track that is not safe", y.move(2, 0, 1), STATE);
        C.due("both are safe", y.move(0, 1, 2), 4 + 2 + 2 + 5);
        y.undo();
        C.due("a move elsewhere", y.move(2, 1, 1), 7);
    }

    private static void moveAndBrakes() {
        ShuntYard x = filledYard(8, "3A", "B", "C");
        x.test(0);
        x.test(1);
        x.test(2);
        x.move(0, 1, 1);
        C.due("left one", x.track(0, 2), 0);
        C.due("came onto it", x.track(1, 2), 0);
        C.due("neither", x.track(2, 2), 120 - 7);
    }

    private static void p7Test() {
        ShuntYard x = filledYard(6, "3A", "B", "");
        C.due("three wagons", x.test(0), 5 + 6);
        C.due("the clock", x.told(2), 11);
        C.due("from its end on", x.track(0, 2), 120);
        C.due("the other", x.test(1), 5 + 2);
        C.due("time goes on", x.track(0, 2), 113);
        C.due("again", x.test(0), 11);
        C.due("anew", x.track(0, 2), 120);
        C.due("changes", x.told(14), 7);
        C.due("empty", x.test(2), STATE);
        for (int wrong : new int[] {-1, 3, Integer.MIN_VALUE, Integer.MAX_VALUE}) {
            C.due("test(" + wrong + ")", x.test(wrong), BAD);
        }
        x.set(3, 0);
        C.due("setting 3 is 0", x.test(1), 2);
        x.set(3, 30);
        C.due("setting 3 is 30", x.test(1), 32);
        C.due("tests are no moves", x.told(6), 0);
        testRunsOut();
    }

    private static void testRunsOut() {
        ShuntYard x = filledYard(6, "A", "");
        list(x, "A");
        x.test(0);
        x.pause(119);
        C.due("the last minute", x.track(0, 2), 1);
        C.due("not refused", x.track(0, 4), 0);
        x.pause(1);
        C.due("over", x.track(0, 2), 0);
        C.due("refused", x.track(0, 4), 6);
        x.set(1, 121);
        C.due("the setting as it is now", x.track(0, 2), 1);
        x.set(1, 600);
        C.due("much more", x.track(0, 2), 480);
        x.set(1, 10);
        C.due("much less", x.track(0, 2), 0);
    }

    private static void p8Pause() {
        ShuntYard x = new ShuntYard();
        C.due("pause(1)", x.pause(1), 1);
        C.due("pause(1000)", x.pause(1000), 1001);
        for (int wrong : new int[] {0, -1, 1001, Integer.MIN_VALUE, Integer.MAX_VALUE}) {
            C.due("pause(" + wrong + ")", x.pause(wrong), BAD);
        }
        C.due("told(2)", x.told(2), 1001);
        C.due("changes", x.told(14), 2);
        x.undo();
        C.due("undone", x.told(2), 1);
    }

    private static void dueRefused(String when, ShuntYard x, int track, int reason) {
        int before = x.told(14);
        C.due(when + ": track(" + track + ", 4)", x.track(track, 4), reason);
        C.due(when + ": depart(" + track + ")", x.depart(track), STATE);
        C.due(when + ": told(11)", x.told(11), reason);
        C.due(when + ": told(14)", x.told(14), before);
    }

    private static void p9Depart() {
        ShuntYard x = filledYard(6, "2A", "A B", "");
        dueRefused("no list", x, 2, 1);
        list(x, "AB");
        dueRefused("an empty track", x, 2, 2);
        dueRefused("another destination", x, 1, 3);
        dueRefused("one elsewhere", x, 0, 4);
        x.move(1, 2, 1);
        x.move(1, 0, 1);
        dueRefused("no test", x, 0, 6);
        x.test(0);
        int clock = x.told(2);
        C.due("departs", x.depart(0), 3);
        C.due("it takes no time", x.told(2), clock);
        C.due("the reason stays", x.told(11), 6);
        C.due("next one", x.train(0), 1);
        C.due("one left in the list", x.told(4), 1);
        C.due("trains", x.told(8), 1);
        C.due("wagons", x.told(9), 3);
        C.due("in the yard", x.told(3), 1);
        C.due("the track is empty", x.track(0, 0), 0);
        C.due("no test holds", x.track(0, 2), 0);
        for (int wrong : new int[] {-1, 3, Integer.MIN_VALUE, Integer.MAX_VALUE}) {
            C.due("depart(" + wrong + ")", x.depart(wrong), BAD);
        }
        C.due("BAD has no reason", x.told(11), 6);
        C.due("undo", x.undo() >= 0 ? 1 : 0, 1);
        C.dueStanding("undone", x, 0, "0A 1A 2A");
        C.due("trains undone", x.told(8), 0);
        C.due("wagons undone", x.told(9), 0);
        C.due("the test holds again", x.track(0, 2), 120);
        C.due("the list is back", x.train(0), 0);
        departNotSafe();
        departInOrder();
    }

    private static void departNotSafe() {
        ShuntYard x = filledYard(6, "Af A Ax", "A");
        list(x, "A");
        x.set(0, 3);
        dueRefused("one elsewhere before not safe", x, 0, 4);
        arrive(x, 1, "B");
        dueRefused("another before one elsewhere", x, 1, 3);
        ShuntYard y = filledYard(6, "Af A Ax", "");
        list(y, "A");
        y.set(0, 3);
        dueRefused("not safe before no test", y, 0, 5);
        y.test(0);
        dueRefused("not safe, though tested", y, 0, 5);
        y.set(0, 1);
        C.due("safe again", y.depart(0), 3);
        dueRefused("the list is empty then", y, 0, 1);
    }

    private static void departInOrder() {
        ShuntYard x = filledYard(6, "A", "B", "C");
        list(x, "CAB");
        x.test(0);
        x.test(1);
        x.test(2);
        dueRefused("not yet", x, 0, 3);
        C.due("C", x.depart(2), 1);
        dueRefused("not yet", x, 1, 3);
        C.due("A", x.depart(0), 1);
        C.due("B", x.depart(1), 1);
        C.due("trains", x.told(8), 3);
        C.due("wagons", x.told(9), 3);
        C.due("none left", x.told(3), 0);
    }

    private static void p10MakeUp() {
        ShuntYard x = filledYard(6, "A B A", "A", "");
        C.due("empty list", x.makeUp(3), STATE);
        list(x, "AB");
        for (int wrong : new int[] {-1, 4, Integer.MIN_VALUE, Integer.MAX_VALUE}) {
            C.due("makeUp(" + wrong + ")", x.makeUp(wrong), BAD);
        }
        C.due("no row", x.makeUp(0), STATE);
        C.due("no row of two", x.makeUp(2), STATE);
        int changes = x.told(14);
        C.due("three moves", x.makeUp(3), 7 + 8 + 7);
        C.dueStanding("made up", x, 1, "3A 2A 0A");
        C.dueStanding("the other", x, 0, "1B");
        C.due("the clock", x.told(2), 22);
        C.due("moves", x.told(6), 3);
        C.due("their minutes", x.told(7), 22);
        C.due("one change", x.told(14), changes + 1);
        x.test(1);
        C.due("made up already", x.makeUp(0), 0);
        C.due("a change all the same", x.told(14), changes + 3);
        C.due("the test holds", x.track(1, 2), 120);
        x.undo();
        x.undo();
        C.due("undone", x.undo(), changes);
        C.dueStanding("undone", x, 0, "0A 1B 2A");
        C.due("no moves then", x.told(6), 0);
        list(x, "C");
        C.due("no wagon of it", x.makeUp(3), STATE);

        ShuntYard y = filledYard(6, "A", "A", "B");
        list(y, "A");
        y.test(0);
        y.test(1);
        y.test(2);
        y.makeUp(1);
        C.due("moves end tests", y.track(0, 2) + y.track(1, 2), 0);
        C.due("but not elsewhere", y.track(2, 2), 120 - 7);
    }

    private static void p11Undo() {
        ShuntYard x = new ShuntYard();
        C.due("nothing to undo", x.undo(), STATE);
        for (int i = 1; i <= 12; i++) {
            x.pause(i);
            C.due("changes", x.told(14), Math.min(i, 8));
        }
        int clock = 78;
        for (int i = 12; i > 4; i--) {
            clock -= i;
            C.due("undo", x.undo(), i - 5);
            C.due("the clock", x.told(2), clock);
        }
        C.due("no more", x.undo(), STATE);
        C.due("the clock stays", x.told(2), clock);

        ShuntYard y = filledYard(6, "A Bf", "", "", "");
        list(y, "A");
        y.depart(0);
        put(y, "Q");
        y.list();
        y.keep(0);
        y.undo();
        C.due("the list", y.told(4), 0);
        for (int i = 4; i >= 0; i--) {
            C.due("the others", y.undo(), i);
        }
        C.due("none is left", y.undo(), STATE);
        C.due("tracks", y.told(0), 3);
        C.due("wagons", y.told(3), 0);
        C.due("number of the next", y.told(10), 0);
        C.due("the text is not undone", y.told(13), 1);
        C.due("nor the fault", y.fault(0), 1);
        C.due("nor the reason", y.told(11), 3);
        C.due("nor the image", y.back(0), 2);
        C.due("undo of back", y.undo(), 0);
        arrive(y, 0, "C");
        C.due("numbers from there", y.wagon(0, 0, 0), 0);
    }

    private static void p12And13Text() {
        ShuntYard x = new ShuntYard();
        for (int wrong : new int[] {31, 127, 0, -1, 256 + 65, Integer.MIN_VALUE, Integer.MAX_VALUE}) {
            C.due("write(" + wrong + ")", x.write(wrong), BAD);
        }
        C.due("write(32)", x.write(32), 1);
        C.due("write(126)", x.write(126), 2);
        C.due("wipe", x.wipe(), 2);
        C.due("wipe again", x.wipe(), 0);
        for (int i = 1; i <= 60; i++) {
            C.due("write", x.write(i == 60 ? 'A' : ' '), i);
            C.due("told(13)", x.told(13), i);
        }
        C.due("the 61st", x.write(65), FULL);
        C.due("BAD before FULL", x.write(127), BAD);
        C.due("no change", x.told(14), 0);
        C.due("the last byte is read", x.arrive(0), 1);
        C.due("wipe", x.wipe(), 60);
        C.due("told(13)", x.told(13), 0);
        C.due("empty", x.arrive(1), 0);
        C.due("changes", x.told(14), 2);
        for (int i = 0; i < 59; i++) {
            x.write(' ');
        }
        x.write('7');
        x.list();
        C.due("fault at the last byte", x.fault(1), 59);
        x.arrive(0);
        C.due("fault behind the last byte", x.fault(1), 60);
    }

    private static void p14Fault() {
        ShuntYard x = new ShuntYard();
        for (int wrong : new int[] {-1, 2, Integer.MIN_VALUE, Integer.MAX_VALUE}) {
            C.due("fault(" + wrong + ")", x.fault(wrong), BAD);
        }
        arrive(x, 0, "A");
        C.due("none", x.fault(0), NONE);
        arrive(x, 0, "  2");
        C.due("kind", x.fault(0), 2);
        C.due("place", x.fault(1), 3);
        list(x, "ABCd");
        C.due("kind of the latest", x.fault(0), 1);
        C.due("place of the latest", x.fault(1), 3);
        list(x, "ABC");
        arrive(x, 0, "C");
        C.due("stays, kind", x.fault(0), 1);
        C.due("stays, place", x.fault(1), 3);
        x.begin(2, 1);
        x.wipe();
        C.due("stays after begin", x.fault(1), 3);
    }

    private static void p15Told() {
        ShuntYard x = filledYard(7, "Af B Ax", "2A", "", "C");
        for (int wrong : new int[] {-1, 15, Integer.MIN_VALUE, Integer.MAX_VALUE}) {
            C.due("told(" + wrong + ")", x.told(wrong), BAD);
        }
        list(x, "CAB");
        x.test(3);
        x.depart(3);
        x.set(0, 3);
        x.move(1, 2, 1);
        x.depart(1);
        dueAllTold("told", x, 4, 7, 7 + 7, 5, 2, 1, 1, 7, 1, 1, 6, 4, NONE, 3, 8);
        x.set(0, 1);
        dueAllTold("told", x, 4, 7, 7 + 7, 5, 2, 0);
        madeUpIsTold();
    }

    private static void madeUpIsTold() {
        ShuntYard x = filledYard(6, "2A", "B", "A", "");
        C.due("no list", x.told(12), NONE);
        list(x, "AB");
        C.due("on two tracks", x.told(12), NONE);
        x.move(2, 1, 1);
        C.due("behind another", x.told(12), NONE);
        x.move(1, 0, 1);
        C.due("all on one", x.told(12), 0);
        x.move(0, 3, 3);
        C.due("all on another", x.told(12), 3);
        x.move(1, 3, 1);
        C.due("another among them", x.told(12), NONE);
        list(x, "B");
        C.due("behind others", x.told(12), NONE);
        list(x, "C");
        C.due("none of it", x.told(12), NONE);
        ShuntYard y = filledYard(6, "Af A Ax", "");
        list(y, "A");
        y.set(0, 3);
        C.due("made up, though not safe", y.told(12), 0);
    }

    private static void p16Setting() {
        ShuntYard x = new ShuntYard();
        for (int wrong : new int[] {-1, 4, Integer.MIN_VALUE, Integer.MAX_VALUE}) {
            C.due("setting(" + wrong + ")", x.setting(wrong), BAD);
        }
        x.set(1, 77);
        C.due("setting(1)", x.setting(1), 77);
        C.due("setting(2)", x.setting(2), 4);
    }

    private static void p17Track() {
        ShuntYard x = filledYard(8, "Af 2A Bx C Bf", "2Af B Cf", "");
        int[][] wants = {{6, 1, 0, 1, 1}, {4, 1, 0, NONE, 1}, {0, 1, 0, NONE, 1}};
        for (int track = 0; track < 3; track++) {
            for (int what = 0; what < 5; what++) {
                C.due("track(" + track + ", " + what + ")", x.track(track, what), wants[track][what]);
            }
            C.due("track(" + track + ", 5)", x.track(track, 5), BAD);
            for (int wrong : WRONG) {
                C.due("track(" + track + ", " + wrong + ")", x.track(track, wrong), BAD);
                C.due("track(" + wrong + ", 0)", x.track(wrong, 0), BAD);
            }
        }
        C.due("track(3, 0)", x.track(3, 0), BAD);
        x.set(0, 2);
        C.due("not safe", x.track(0, 1), 0);
        C.due("fuel alone is safe", x.track(1, 1), 1);
        x.set(0, 0);
        C.due("safe", x.track(0, 1), 1);
        C.due("no gap", arrive(x, 0, "2Ax"), 8);
        C.due("the least gap", x.track(0, 3), 0);
        list(x, "C");
        C.due("asking gives no reason", x.track(2, 4), 2);
        C.due("told(11)", x.told(11), NONE);
        gapsAreCountedBetweenNeighbours();
    }

    private static void gapsAreCountedBetweenNeighbours() {
        // The fuel behind the fuel is nearer to the explosives; only it counts.
        ShuntYard x = filledYard(8, "Af A Af 3A Ax", "Ax 2A Ax 3A Af");
        C.due("three", x.track(0, 3), 3);
        C.due("three", x.track(1, 3), 3);
        x.set(0, 3);
        C.due("both safe", x.told(5), 0);
        ShuntYard y = filledYard(8, "Af 3A Ax 2A Af", "");
        C.due("the lesser one behind", y.track(0, 3), 2);
        y.set(0, 2);
        C.due("as many as the gap", y.track(0, 1), 1);
        y.set(0, 3);
        C.due("fewer", y.track(0, 1), 0);
        ShuntYard z = filledYard(8, "3A Ax 3A", "");
        C.due("one alone", z.track(0, 3), NONE);
    }

    private static void p18Wagon() {
        ShuntYard x = filledYard(6, "A 2Ff", "Cx", "");
        int[][] wants = {{0, 0, 0}, {1, 5, 1}, {2, 5, 1}};
        for (int place = 0; place < 3; place++) {
            for (int what = 0; what < 3; what++) {
                C.due("wagon(0, " + place + ", " + what + ")", x.wagon(0, place, what), wants[place][what]);
            }
        }
        C.due("number", x.wagon(1, 0, 0), 3);
        C.due("destination", x.wagon(1, 0, 1), 2);
        C.due("kind", x.wagon(1, 0, 2), 2);
        x.move(0, 2, 1);
        C.due("gone", x.wagon(0, 2, 0), NONE);
        C.due("none", x.wagon(0, 8, 0), NONE);
        C.due("none far off", x.wagon(0, Integer.MAX_VALUE, 2), NONE);
        C.due("place -1", x.wagon(0, -1, 0), BAD);
        C.due("place least", x.wagon(0, Integer.MIN_VALUE, 0), BAD);
        C.due("what 3", x.wagon(0, 0, 3), BAD);
        C.due("what 3 of none", x.wagon(0, 7, 3), BAD);
        C.due("track 3", x.wagon(3, 0, 0), BAD);
        for (int wrong : WRONG) {
            C.due("what " + wrong, x.wagon(0, 0, wrong), BAD);
            C.due("track " + wrong, x.wagon(wrong, 0, 0), BAD);
        }
    }

    private static void p19Train() {
        ShuntYard x = new ShuntYard();
        list(x, "FED");
        C.due("train(0)", x.train(0), 5);
        C.due("train(2)", x.train(2), 3);
        C.due("train(3)", x.train(3), NONE);
        C.due("train(10)", x.train(10), NONE);
        C.due("train far off", x.train(Integer.MAX_VALUE), NONE);
        C.due("train(-1)", x.train(-1), BAD);
        C.due("train least", x.train(Integer.MIN_VALUE), BAD);
        list(x, "A");
        C.due("the former list is gone", x.train(1), NONE);
    }

    private static void p20Find() {
        ShuntYard x = filledYard(6, "2A", "B C", "");
        C.due("track of 3", x.find(3, 0), 1);
        C.due("place of 3", x.find(3, 1), 1);
        C.due("track of 0", x.find(0, 0), 0);
        C.due("place of 0", x.find(0, 1), 0);
        C.due("not come yet", x.find(4, 0), NONE);
        C.due("far off", x.find(Integer.MAX_VALUE, 1), NONE);
        x.move(1, 2, 1);
        C.due("moved", x.find(3, 0), 2);
        C.due("place then", x.find(3, 1), 0);
        list(x, "A");
        x.test(0);
        x.depart(0);
        C.due("departed", x.find(0, 0), NONE);
        C.due("departed", x.find(1, 1), NONE);
        C.due("number -1", x.find(-1, 0), BAD);
        C.due("number least", x.find(Integer.MIN_VALUE, 1), BAD);
        C.due("what 2", x.find(0, 2), BAD);
        for (int wrong : WRONG) {
            C.due("what " + wrong, x.find(99, wrong), BAD);
        }
    }

    private static void p21Mean() {
        ShuntYard x = filledYard(6, "6A", "", "");
        C.dueFloat("none", x.mean(), 0.0f);
        x.move(0, 1, 1);
        C.dueFloat("one", x.mean(), 7.0f);
        x.move(0, 2, 2);
        C.dueFloat("two", x.mean(), 17.0f / 2.0f);
        x.move(1, 0, 1);
        C.dueFloat("three", x.mean(), 24.0f / 3.0f);
        x.test(0);
        x.pause(100);
        x.move(0, 1, 2);
        x.move(0, 1, 2);
        x.move(1, 0, 1);
        C.dueFloat("as a float", x.mean(), 47.0f / 6.0f);
        x.undo();
        C.dueFloat("undone", x.mean(), 40.0f / 5.0f);
    }

    private static void p22Cost() {
        ShuntYard x = filledYard(4, "A Bx", "3A", "Af", "");
        int changes = x.told(14);
        C.due("far", x.cost(0, 3, 1), 4 + 1 + 6 + 5);
        C.due("two", x.cost(0, 3, 2), 4 + 2 + 6 + 5);
        C.due("FULL", x.cost(0, 1, 2), FULL);
        C.due("STATE, not safe", x.cost(0, 2, 1), STATE);
        C.due("STATE, too many", x.cost(0, 3, 3), STATE);
        for (int[] wrong : new int[][] {{-1, 0, 1}, {4, 0, 1}, {0, -1, 1}, {0, 4, 1}, {1, 1, 1}, {0, 1, 0},
            {0, 1, 9}}) {
            C.due("cost " + wrong[0] + " " + wrong[1] + " " + wrong[2], x.cost(wrong[0], wrong[1], wrong[2]), BAD);
        }
        C.dueStanding("nothing moved", x, 0, "0A 1Bx");
        C.due("no time", x.told(2), 0);
        C.due("no change", x.told(14), changes);
    }

    private static void dueCheapest(String when, ShuntYard x, int most, int... wants) {
        for (int what = 0; what < wants.length; what++) {
            C.due(when + ": cheapest(" + most + ", " + what + ")", x.cheapest(most, what), wants[what]);
        }
    }

    private static void dueNoRow(String when, ShuntYard x, int most) {
        dueCheapest(when, x, most, NONE, NONE, NONE, NONE, NONE);
    }

    private static void p23Cheapest() {
        ShuntYard x = filledYard(6, "A B A", "A", "");
        dueNoRow("empty list", x, 3);
        list(x, "A");
        for (int wrong : new int[] {-1, 4, Integer.MIN_VALUE, Integer.MAX_VALUE}) {
            C.due("most " + wrong, x.cheapest(wrong, 0), BAD);
        }
        for (int wrong : new int[] {-1, 5, Integer.MIN_VALUE, Integer.MAX_VALUE}) {
            C.due("what " + wrong, x.cheapest(0, wrong), BAD);
        }
        int changes = x.told(14);
        dueNoRow("no moves", x, 0);
        dueNoRow("one", x, 1);
        dueNoRow("two", x, 2);
        dueCheapest("three", x, 3, 22, 3, 0, 1, 1);
        C.dueStanding("nothing moved", x, 0, "0A 1B 2A");
        C.due("no change", x.told(14), changes);
        list(x, "F");
        dueNoRow("no wagon of it", x, 3);
        ShuntYard y = filledYard(6, "B", "2A");
        list(y, "A");
        dueCheapest("made up already", y, 0, 0, 0, NONE, NONE, NONE);
        dueCheapest("made up already", y, 3, 0, 0, NONE, NONE, NONE);
        movesOfARowMustBeAllowed();
        moreMovesMayBeCheaper();
    }

    private static void movesOfARowMustBeAllowed() {
        ShuntYard x = filledYard(2, "2A", "A");
        list(x, "A");
        dueNoRow("no room", x, 3);
        ShuntYard y = filledYard(6, "Af", "Ax");
        list(y, "A");
        dueNoRow("never safe", y, 3);
        y.set(0, 0);
        dueCheapest("without a gap", y, 3, 7, 1, 0, 1, 1);
        ShuntYard z = filledYard(6, "Af", "A", "Ax");
        list(z, "A");
        dueCheapest("the common one between", z, 3, 15, 2, 0, 1, 1);
        ShuntYard full = filledYard(3, "B A B", "A", "3B");
        list(full, "A");
        dueCheapest("the full one is left alone", full, 3, 8 + 7, 2, 0, 1, 2);
        ShuntYard fuller = filledYard(3, "B A B", "A B", "3B");
        list(fuller, "A");
        dueNoRow("full tracks", fuller, 3);
    }

    private static ShuntYard yardForA(int gap, int moveTime, int capacity, String... tracks) {
        ShuntYard x = new ShuntYard();
        x.begin(tracks.length, capacity);
        x.set(0, 0);
        fill(x, tracks);
        x.set(0, gap);
        x.set(2, moveTime);
        list(x, "A");
        return x;
    }

    private static void moreMovesMayBeCheaper() {
        ShuntYard x = yardForA(1, 4, 6, "A Bx", "", "", "");
        dueCheapest("to the next track", x, 3, 12, 1, 0, 1, 1);
        ShuntYard y = yardForA(1, 1, 2, "A", "2B", "A");
        dueCheapest("beyond the full one", y, 3, 1 + 1 + 4, 1, 0, 2, 1);
        ShuntYard z = yardForA(1, 1, 8, "6A B", "B", "", "A");
        dueCheapest("clear, then fetch", z, 3, 4 + 8, 2, 0, 1, 1);
        ShuntYard large = yardForA(1, 4, 8, "B 6A", "");
        dueCheapest("six at once", large, 3, 4 + 6 + 2, 1, 0, 1, 6);
        // Ax B to 1 and the B back take 10 + 4; the B to 1, Af B to 0 and the B to 1 take 4 + 5 + 4.
        ShuntYard dear = yardForA(0, 1, 3, "Ax B", "Af");
        dueCheapest("two moves at most", dear, 2, 14, 2, 0, 1, 2);
        dueCheapest("three are cheaper", dear, 3, 13, 3, 0, 1, 1);
    }

    private static void p23TiesAmongRows() {
        dueCheapest("the lesser from", yardForA(1, 4, 6, "A", "A", ""), 3, 7, 1, 0, 1, 1);
        dueCheapest("the lesser to", yardForA(1, 4, 6, "", "A B", ""), 3, 7, 1, 1, 0, 1);
        dueCheapest("the lesser from, though to a greater one", yardForA(2, 1, 2, "A", "", "A"), 3, 6, 1, 0, 2, 1);
        dueCheapest("fetch the one", yardForA(1, 1, 6, "2A", "", "A"), 3, 6, 1, 2, 0, 1);
        dueCheapest("clear towards 3", yardForA(1, 4, 6, "B", "2A", "A B", ""), 3, 14, 2, 2, 3, 1);
        // The B comes along and goes back: 8 + 7, where clearing it first takes at least 9 + 7.
        dueCheapest("the B comes along", yardForA(1, 4, 6, "A B", "A", "B", ""), 3, 15, 2, 0, 1, 2);
        // B Ax to 0 and the Ax back take 10 + 9; the Ax to 0, 2A B to 0 and the B back 9 + 6 + 4.
        dueCheapest("the fewer moves", yardForA(2, 1, 4, "", "2A B Ax"), 3, 19, 2, 1, 0, 2);
        // 2B to 1 and the A to 2 take 17 + 18; A 2B to 1 and 2B back 18 + 17.
        dueCheapest("the fewer wagons", yardForA(2, 13, 4, "Bx A 2B", "", "", ""), 3, 35, 2, 0, 1, 2);
        laterMovesDecideToo();
    }

    private static void laterMovesDecideToo() {
        ShuntYard x = yardForA(0, 1, 4, "A", "A", "A", "A");
        dueCheapest("four tracks", x, 3, 13, 3, 0, 1, 1);
        C.due("makeUp", x.makeUp(3), 13);
        C.dueStanding("1 to 2, then 3 to 2", x, 2, "2A 1A 0A 3A");
        ShuntYard y = yardForA(0, 1, 2, "", "", "Af Bx", "A");
        dueCheapest("clear, then", y, 3, 13, 2, 2, 1, 1);
        C.due("makeUp", y.makeUp(2), 13);
        C.dueStanding("the lesser from", y, 3, "2A 0Af");
    }

    private static void p24Keep() {
        ShuntYard x = filledYard(6, "2A", "B", "");
        int changes = x.told(14);
        C.due("keep(0)", x.keep(0), 3);
        C.due("no change", x.told(14), changes);
        for (int wrong : new int[] {-1, 2, Integer.MIN_VALUE, Integer.MAX_VALUE}) {
            C.due("keep(" + wrong + ")", x.keep(wrong), BAD);
        }
        x.move(0, 2, 1);
        arrive(x, 1, "C");
        C.due("keep(1)", x.keep(1), 4);
        x.begin(2, 1);
        C.due("the other image", x.back(1), 4);
        C.dueStanding("the other image", x, 2, "1A");
        C.due("the first one", x.back(0), 3);
        C.dueStanding("the first one", x, 0, "0A 1A");
        x.pause(5);
        C.due("replaced", x.keep(0), 3);
        x.begin(3, 3);
        x.back(0);
        C.due("its clock", x.told(2), 5);
        x.begin(2, 2);
        C.due("an empty yard", x.keep(0), 0);
        C.due("comes back", x.back(0), 0);
        C.due("its tracks", x.told(0), 2);
    }

    private static void p25Back() {
        ShuntYard x = filledYard(6, "2A", "B", "");
        for (int wrong : new int[] {-1, 2, Integer.MIN_VALUE, Integer.MAX_VALUE}) {
            C.due("back(" + wrong + ")", x.back(wrong), BAD);
        }
        C.due("nothing kept", x.back(1), STATE);
        list(x, "AB");
        x.set(0, 3);
        x.test(0);
        x.keep(1);
        x.depart(0);
        x.depart(0);
        x.set(0, 0);
        put(x, "Z");
        x.list();
        x.begin(4, 8);
        int changes = x.told(14);
        C.due("back", x.back(1), 3);
        dueAllTold("back", x, 3, 6, 9, 3, 2, 0, 0, 0, 0, 0, 3, 2, 0, 1, Math.min(8, changes + 1));
        C.due("the fault stays", x.fault(0), 1);
        C.due("its setting", x.setting(0), 3);
        C.due("its test", x.track(0, 2), 120);
        C.due("its list", x.train(1), 1);
        C.dueStanding("its wagons", x, 0, "0A 1A");
        x.move(0, 2, 2);
        C.due("the image stays", x.back(1), 3);
        C.dueStanding("its wagons again", x, 0, "0A 1A");
        x.undo();
        C.dueStanding("undone", x, 2, "0A 1A");
        x.undo();
        C.due("undo", x.undo() >= 0 ? 1 : 0, 1);
        C.due("as it was before", x.told(0), 4);
        C.due("also the wagons", x.told(3), 0);
        arrive(x, 0, "C");
        C.due("and the next number", x.wagon(0, 0, 0), 0);
    }

    /** Each call that is refused leaves all that can be asked as it was. */
    private static void errorCodesChangeNothing() {
        ShuntYard x = filledYard(3, "A Bf", "2B Cx", "");
        list(x, "AB");
        x.test(0);
        x.keep(0);
        put(x, "3A Q");
        x.arrive(0);
        x.depart(1);
        String before = picture(x);
        x.begin(5, 5);
        x.set(0, 4);
        x.arrive(0);
        x.list();
        x.move(0, 1, 1);
        x.move(0, 1, 2);
        x.move(0, 1, 3);
        x.test(2);
        x.pause(0);
        x.depart(3);
        x.makeUp(0);
        x.makeUp(4);
        x.write(127);
        x.keep(2);
        x.back(1);
        x.back(2);
        x.cost(0, 2, 1);
        x.cheapest(3, 0);
        x.told(15);
        C.dueTrue("refused calls change nothing: " + before + " / " + picture(x), before.equals(picture(x)));
    }

    private static String picture(ShuntYard x) {
        StringBuilder all = new StringBuilder();
        for (int what = 0; what < 15; what++) {
            all.append(x.told(what)).append(' ');
        }
        for (int i = 0; i < 4; i++) {
            all.append(x.setting(i)).append(' ').append(x.train(i)).append(' ');
        }
        for (int track = 0; track < x.told(0); track++) {
            all.append('[').append(Checks.standing(x, track)).append(' ').append(x.track(track, 2)).append(']');
        }
        return all.append(x.fault(0)).append(' ').append(x.mean()).toString();
    }
}
