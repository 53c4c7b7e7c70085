import java.util.ArrayDeque;
import java.util.Deque;
import java.util.function.Supplier;

/** CHANGES, undo and the images: what is recorded, how much of it, and what comes back. */
public final class ChangesTest extends Edges {
    private ChangesTest() {
    }

    public static void main(String[] args) {
        nothingCanBeUndoneAtFirst();
        eachChangeIsOne();
        changesThatChangeNothing();
        callsThatAreNoChanges();
        atMost8States();
        theOldestIsDropped();
        refusedCallsDropNothing();
        changesBehindUndo();
        undoIsNoChange();
        undoRestoresEverything();
        undoLeavesTheRest();
        nothingIsKeptAtFirst();
        imagesFrom0To1();
        keepTellsHowManyWagons();
        keepReplaces();
        imagesAreApart();
        theImageStays();
        backRestoresEverything();
        backLeavesTheRest();
        backIsAChange();
        imagesOutliveBegin();
        C.close();
    }

    /** Two tracks that are tested, of three; four changes. */
    private static ShuntYard ready() {
        ShuntYard x = new ShuntYard();
        arrive(x, 0, "2A");
        arrive(x, 1, "B Cf");
        x.test(0);
        list(x, "AB");
        put(x, "D");
        return x;
    }

    private static ShuntYard readyWithEight() {
        ShuntYard x = ready();
        x.pause(1);
        x.pause(1);
        x.pause(1);
        x.pause(1);
        return x;
    }

    private static void nothingCanBeUndoneAtFirst() {
        ShuntYard x = new ShuntYard();
        dueTold("new", x, 14, 0);
        due("undo", x.undo(), STATE);
        x.pause(1);
        dueEdge("one change", x.undo(), 0, x.undo(), STATE);
        dueTold("the clock", x, 2, 0);
    }

    /** The change is made behind four others that ready() made, and perhaps one more. */
    private static void dueChange(String name, Supplier<ShuntYard> made, Call call, int want) {
        ShuntYard x = made.get();
        int before = x.told(14);
        due(name, call.on(x), want);
        dueTold(name, x, 14, before + 1);
        Call andUndo = y -> call.on(y) + y.undo();
        dueUnchanged(name + ", undone", made, andUndo, Part.PRESENT, Part.CHANGES, Part.UNDONE, Part.TEXT,
                Part.LATEST);
        Supplier<ShuntYard> full = after(after(made, ChangesTest::pauses), ChangesTest::pauses);
        ShuntYard y = full.get();
        dueTold(name + " behind eight", y, 14, 8);
        call.on(y);
        dueTold(name + " as a ninth one", y, 14, 8);
        due(name + " as a ninth one, undone", y.undo(), 7);
        dueAlike(name + " as a ninth one, undone", present(y), present(full.get()));
    }

    private static int pauses(ShuntYard x) {
        return x.pause(1) + x.pause(1);
    }

    private static void dueChange(String name, Call call, int want) {
        dueChange(name, ChangesTest::ready, call, want);
    }

    private static Supplier<ShuntYard> readyWithText(String text) {
        return () -> {
            ShuntYard x = ready();
            put(x, text);
            return x;
        };
    }

    private static void eachChangeIsOne() {
        dueChange("begin", x -> x.begin(4, 8), 4);
        dueChange("set", x -> x.set(1, 10), 120);
        dueChange("arrive", x -> x.arrive(2), 1);
        dueChange("list", x -> x.list(), 1);
        dueChange("move", x -> x.move(0, 2, 2), 4 + 2 + 4);
        dueChange("test", x -> x.test(1), 9);
        dueChange("pause", x -> x.pause(1000), 1009);
        dueChange("depart", x -> x.depart(0), 2);
        Supplier<ShuntYard> apart = after(ChangesTest::ready, x -> x.move(0, 2, 1));
        dueChange("makeUp", apart, x -> x.makeUp(3), 4 + 1 + 4);
        dueChange("back", after(apart, x -> x.keep(0)), x -> x.back(0), 4);
    }

    private static void changesThatChangeNothing() {
        dueChange("set to the same", x -> x.set(1, 120), 120);
        dueChange("arrive of none", readyWithText(""), x -> x.arrive(0), 2);
        dueChange("list as it is", readyWithText("AB"), x -> x.list(), 2);
        dueChange("makeUp of what is made up", x -> x.makeUp(0), 0);
        dueChange("back to the same", after(ChangesTest::ready, x -> x.keep(1)), x -> x.back(1), 4);
        dueChange("begin as it is", after(ChangesTest::ready, x -> x.begin(3, 6)), x -> x.begin(3, 6), 0);
    }

    private static void callsThatAreNoChanges() {
        ShuntYard x = ready();
        Call[] calls = {y -> y.write('A'), ShuntYard::wipe, y -> y.keep(0), y -> y.keep(1), y -> y.fault(0),
            y -> y.told(2), y -> y.setting(0), y -> y.track(0, 4), y -> y.wagon(0, 0, 0), y -> y.train(0),
            y -> y.find(0, 0), y -> (int) y.mean(), y -> y.cost(0, 1, 1), y -> y.cheapest(3, 0)};
        for (Call call : calls) {
            C.dueTrue("no error code", call.on(x) >= NONE);
            dueTold("no change", x, 14, 4);
        }
    }

    private static void atMost8States() {
        ShuntYard x = new ShuntYard();
        for (int i = 1; i <= 20; i++) {
            x.pause(1);
            dueTold("changes " + i, x, 14, i < 8 ? i : 8);
        }
        for (int i = 7; i >= 0; i--) {
            due("undo", x.undo(), i);
            dueTold("the clock", x, 2, 12 + i);
        }
        due("none is left", x.undo(), STATE);
        dueTold("the clock", x, 2, 12);
    }

    private static void theOldestIsDropped() {
        for (int changes = 7; changes <= 10; changes++) {
            ShuntYard x = new ShuntYard();
            for (int i = 1; i <= changes; i++) {
                x.pause(i);
            }
            int left = changes < 8 ? changes : 8;
            for (int i = 1; i <= left; i++) {
                due("undo", x.undo(), left - i);
            }
            int dropped = changes - left;
            dueTold("what " + changes + " changes leave", x, 2, dropped * (dropped + 1) / 2);
            due("none is left", x.undo(), STATE);
        }
    }

    private static void refusedCallsDropNothing() {
        ShuntYard x = readyWithEight();
        due("move", x.move(2, 0, 1), STATE);
        due("pause", x.pause(0), BAD);
        due("depart", x.depart(1), STATE);
        due("list", list(x, "8"), STATE);
        due("arrive", arrive(x, 0, "8A"), FULL);
        for (int i = 7; i >= 0; i--) {
            due("undo", x.undo(), i);
        }
        dueTold("the first state", x, 3, 0);
    }

    /** So many changes, then so many undone, again and again, against a plain list of clocks. */
    private static void changesBehindUndo() {
        for (int more = 1; more <= 10; more++) {
            for (int fewer = 0; fewer <= 9; fewer++) {
                ShuntYard x = new ShuntYard();
                Deque<Integer> clocks = new ArrayDeque<>();
                int clock = 0;
                for (int turn = 1; turn <= 5; turn++) {
                    for (int i = 0; i < more; i++) {
                        clocks.addLast(clock);
                        if (clocks.size() > 8) {
                            clocks.removeFirst();
                        }
                        clock += turn;
                        due("pause", x.pause(turn), clock);
                    }
                    for (int i = 0; i < fewer; i++) {
                        due("undo", x.undo(), clocks.isEmpty() ? STATE : clocks.size() - 1);
                        clock = clocks.isEmpty() ? clock : clocks.removeLast();
                        dueTold("undone", x, 2, clock);
                    }
                    dueTold("can be undone", x, 14, clocks.size());
                }
            }
        }
    }

    private static void undoIsNoChange() {
        ShuntYard x = new ShuntYard();
        x.pause(1);
        x.pause(2);
        due("undo", x.undo(), 1);
        dueTold("one is left", x, 14, 1);
        due("undo goes on", x.undo(), 0);
        dueTold("the clock", x, 2, 0);
        due("it is not undone", x.undo(), STATE);
    }

    /** Everything that is recorded differs from what it was. */
    private static void changeAll(ShuntYard x) {
        x.begin(4, 5);
        x.set(0, 3);
        x.set(1, 600);
        x.set(2, 20);
        x.set(3, 30);
        arrive(x, 3, "2E");
        list(x, "EFE");
    }

    private static void undoRestoresEverything() {
        ShuntYard x = ready();
        String before = present(x);
        changeAll(x);
        x.test(3);
        for (int i = 7; i >= 0; i--) {
            due("undo", x.undo(), i);
        }
        dueAlike("undone", present(x), before);
        due("find(1, 0)", x.find(1, 0), 0);
        due("track(3, 0)", x.track(3, 0), BAD);
        // Moves and departures are accounts, too.
        ShuntYard y = ready();
        y.move(1, 2, 1);
        y.depart(0);
        String accounts = present(y);
        y.begin(3, 6);
        y.undo();
        dueAlike("accounts", present(y), accounts);
        dueTold("a train", y, 8, 1);
        dueTold("its wagons", y, 9, 2);
        C.dueFloat("mean()", y.mean(), 7.0f);
    }

    private static void undoLeavesTheRest() {
        ShuntYard x = ready();
        x.pause(7);
        put(x, "A G");
        x.list();
        x.depart(1);
        x.keep(0);
        due("undo", x.undo(), 4);
        dueTold("the text", x, 13, 3);
        due("the fault", x.fault(0), 1);
        due("its place", x.fault(1), 2);
        dueTold("the reason", x, 11, 3);
        due("the image", x.back(0), 4);
        dueTold("the image, its clock", x, 2, 9 + 7);
    }

    private static void nothingIsKeptAtFirst() {
        ShuntYard x = new ShuntYard();
        due("the first image", x.back(0), STATE);
        due("the second image", x.back(1), STATE);
        due("an empty yard", x.keep(0), 0);
        dueEdge("an empty yard", x.back(0), 0, x.back(1), STATE);
        dueTold("one change", x, 14, 1);
    }

    private static void imagesFrom0To1() {
        ShuntYard x = ready();
        dueEdge("keep, the first", x.keep(0), 4, x.keep(-1), BAD);
        dueEdge("keep, the last", x.keep(1), 4, x.keep(2), BAD);
        dueEdge("back, the first", x.back(0), 4, x.back(-1), BAD);
        dueEdge("back, the last", x.back(1), 4, x.back(2), BAD);
        for (int wrong : new int[] {LEAST_INT, GREATEST_INT}) {
            due("keep(" + wrong + ")", x.keep(wrong), BAD);
            due("back(" + wrong + ")", x.back(wrong), BAD);
        }
    }

    private static void keepTellsHowManyWagons() {
        ShuntYard x = yardOf(8, "8A", "8A", "8A", "8A");
        due("keep of a full yard", x.keep(1), 32);
        x.begin(2, 1);
        due("keep of an empty one", x.keep(0), 0);
        due("back to the full yard", x.back(1), 32);
        dueStanding("its last track", x, 3, "24A 25A 26A 27A 28A 29A 30A 31A");
        due("back to the empty one", x.back(0), 0);
        dueTold("its tracks", x, 0, 2);
    }

    private static void keepReplaces() {
        ShuntYard x = ready();
        x.keep(0);
        x.pause(5);
        x.keep(0);
        x.pause(5);
        x.back(0);
        dueTold("what was kept last", x, 2, 9 + 5);
        x.undo();
        dueTold("what was there", x, 2, 9 + 10);
    }

    private static void imagesAreApart() {
        ShuntYard x = ready();
        x.keep(0);
        x.pause(5);
        x.keep(1);
        x.pause(5);
        x.back(0);
        dueTold("the first", x, 2, 9);
        x.back(1);
        dueTold("the second", x, 2, 9 + 5);
        x.keep(0);
        x.pause(1);
        x.back(0);
        dueTold("the second in the first", x, 2, 9 + 5);
    }

    private static void theImageStays() {
        ShuntYard x = ready();
        x.keep(1);
        String kept = present(x);
        for (int i = 0; i < 3; i++) {
            changeAll(x);
            due("back", x.back(1), 4);
            dueAlike("as it was kept", present(x), kept);
        }
        x.move(0, 2, 2);
        x.set(1, 10);
        x.back(1);
        dueAlike("changes behind back do not reach it", present(x), kept);
    }

    private static void backRestoresEverything() {
        ShuntYard x = ready();
        x.move(1, 2, 1);
        x.depart(0);
        x.test(1);
        x.keep(0);
        String kept = present(x);
        changeAll(x);
        due("back", x.back(0), 2);
        dueAlike("back", present(x), kept);
        dueTrack("its test holds", x, 1, 2, 120);
        arrive(x, 0, "F");
        dueStanding("its next number", x, 0, "4F");
    }

    private static void backLeavesTheRest() {
        ShuntYard x = ready();
        x.keep(0);
        put(x, "A G");
        x.list();
        x.depart(1);
        due("back", x.back(0), 4);
        dueTold("the text", x, 13, 3);
        due("the fault", x.fault(0), 1);
        due("its place", x.fault(1), 2);
        dueTold("the reason", x, 11, 3);
        dueTold("what can be undone", x, 14, 5);
    }

    private static void backIsAChange() {
        Supplier<ShuntYard> made = () -> {
            ShuntYard x = ready();
            x.keep(0);
            x.pause(3);
            return x;
        };
        ShuntYard x = made.get();
        String before = present(x);
        x.back(0);
        dueTold("behind the others", x, 14, 6);
        due("undone", x.undo(), 5);
        dueAlike("undone", present(x), before);
        Call andUndo = y -> y.back(0) + y.undo();
        dueUnchanged("back, undone", made, andUndo, Part.PRESENT, Part.CHANGES, Part.UNDONE, Part.TEXT, Part.LATEST);
        ShuntYard eight = readyWithEight();
        eight.keep(1);
        due("a ninth one", eight.back(1), 4);
        dueTold("a ninth one", eight, 14, 8);
        ShuntYard refused = made.get();
        due("nothing kept", refused.back(1), STATE);
        dueTold("no change", refused, 14, 5);
    }

    private static void imagesOutliveBegin() {
        ShuntYard x = ready();
        x.keep(0);
        x.begin(2, 1);
        due("back", x.back(0), 4);
        dueTold("its tracks", x, 0, 3);
        dueTold("its places", x, 1, 6);
        x.keep(1);
        for (int i = 0; i < 9; i++) {
            x.undo();
        }
        dueTold("all is undone", x, 3, 0);
        due("back", x.back(1), 4);
        due("undo", x.undo(), 0);
        dueTold("all is undone", x, 3, 0);
    }
}
