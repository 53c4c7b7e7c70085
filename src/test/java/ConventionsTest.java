import java.util.function.Supplier;

/** CONVENTIONS: which code comes first, what a refused call leaves, and when there is NONE. */
public final class ConventionsTest extends Edges {
    private ConventionsTest() {
    }

    public static void main(String[] args) {
        badComesBeforeState();
        badComesBeforeFull();
        stateComesBeforeFull();
        noneComesLast();
        callsWithABadArgumentChangeNothing();
        callsThatAreNotPossibleChangeNothing();
        callsAboveAMaximumChangeNothing();
        refusedReadingChangesTheFaultAlone();
        refusedDepartureChangesTheReasonAlone();
        askingChangesNothing();
        textAndImagesChangeAlone();
        C.close();
    }

    /** Each sort of thing is there: wagons, a list, a test that holds, an image, a fault, a reason, a text. */
    private static ShuntYard busy(String text) {
        ShuntYard x = new ShuntYard();
        x.begin(3, 3);
        arrive(x, 0, "A Bf");
        arrive(x, 1, "2B Cx");
        list(x, "AB");
        x.keep(0);
        x.test(0);
        list(x, "A-");
        x.depart(2);
        put(x, text);
        return x;
    }

    /** A refused call must not drop the oldest state either. */
    private static ShuntYard busyWithEightChanges(String text) {
        ShuntYard x = busy(text);
        x.pause(1);
        x.pause(10);
        x.pause(100);
        return x;
    }

    private static void dueRefused(String name, Call call, int want) {
        dueRefused(name, "D E", call, want);
    }

    private static void dueRefused(String name, String text, Call call, int want) {
        due(name, call.on(busy(text)), want);
        dueUnchanged(name, () -> busy(text), call, Part.PRESENT, Part.CHANGES, Part.UNDONE, Part.IMAGES, Part.TEXT);
        dueUnchanged(name + " with eight changes", () -> busyWithEightChanges(text), call, Part.CHANGES, Part.UNDONE);
    }

    /** For the calls that have no business with the fault or the reason. */
    private static void dueRefusedAltogether(String name, String text, Call call, int want) {
        dueRefused(name, text, call, want);
        dueUnchanged(name, () -> busy(text), call, Part.LATEST);
    }

    private static void badComesBeforeState() {
        due("arrive with a fault", arrive(new ShuntYard(), 3, "?"), BAD);
        due("arrive of what is never safe", arrive(new ShuntYard(), -1, "Af Ax"), BAD);
        ShuntYard x = new ShuntYard();
        due("move from a track on which none stands", x.move(0, 3, 1), BAD);
        due("move of too many, where none stands", x.move(0, 1, 9), BAD);
        due("move to itself, where none stands", x.move(2, 2, 1), BAD);
        due("cost from a track on which none stands", x.cost(0, 3, 1), BAD);
        due("cost of too many, where none stands", x.cost(0, 1, 9), BAD);
        due("cost to itself, where none stands", x.cost(2, 2, 1), BAD);
        due("test where no track is", x.test(3), BAD);
        due("depart with no list", x.depart(3), BAD);
        due("makeUp with no list", x.makeUp(4), BAD);
        due("makeUp with no list", x.makeUp(-1), BAD);
        due("back with nothing kept", x.back(2), BAD);
        due("back with nothing kept", x.back(-1), BAD);
        ShuntYard unsafe = yardWithGap(2, 6, "Af Ax", "A", "");
        due("move of too many, though not safe", unsafe.move(1, 0, 9), BAD);
        due("move to no track, though not safe", unsafe.move(0, 3, 1), BAD);
    }

    private static void badComesBeforeFull() {
        ShuntYard x = yardOf(2, "2A", "2A");
        due("move of too many to a full track", x.move(0, 1, 9), BAD);
        due("cost of none to a full track", x.cost(0, 1, 0), BAD);
        due("arrive on no track", arrive(x, 2, "8A"), BAD);
        ShuntYard full = new ShuntYard();
        put(full, times(60, " "));
        due("write of no byte into a full text", full.write(31), BAD);
        due("write of no byte into a full text", full.write(127), BAD);
        due("write into a full text", full.write(32), FULL);
    }

    private static void stateComesBeforeFull() {
        ShuntYard x = yardOf(2, "A Af", "2A", "");
        due("arrive: not safe, and more than C", arrive(x, 0, "Ax"), STATE);
        due("arrive: not safe in itself, and more than C", arrive(x, 1, "Af Ax"), STATE);
        due("arrive: a fault, and more than C", arrive(x, 1, "A ?"), STATE);
        due("arrive: more than C alone", arrive(x, 0, "A Ax"), FULL);
        due("move: not so many, and more than C", x.move(0, 1, 3), STATE);
        due("cost: not so many, and more than C", x.cost(0, 1, 3), STATE);
        ShuntYard y = yardOf(2, "Ax", "A Af");
        due("move: not safe, and more than C", y.move(0, 1, 1), STATE);
        due("cost: not safe, and more than C", y.cost(0, 1, 1), STATE);
        due("move: more than C alone", y.move(1, 0, 2), FULL);
        due("cost: more than C alone", y.cost(1, 0, 2), FULL);
        ShuntYard z = yardWithGap(1, 3, "Af Ax A", "3A");
        due("move: what stays is not safe, and more than C", z.move(0, 1, 1), STATE);
    }

    private static void noneComesLast() {
        ShuntYard x = new ShuntYard();
        due("fault of none", x.fault(2), BAD);
        due("track without dangers", x.track(3, 3), BAD);
        due("wagon: none stands there", x.wagon(0, 0, 3), BAD);
        due("wagon: none stands there", x.wagon(0, 0, -1), BAD);
        due("wagon: none stands there", x.wagon(3, 0, 0), BAD);
        due("wagon: none stands there", x.wagon(0, -1, 0), BAD);
        due("train: there are none", x.train(-1), BAD);
        due("find: none has come", x.find(0, 2), BAD);
        due("find: none has come", x.find(0, -1), BAD);
        due("find: none has come", x.find(-1, 0), BAD);
        due("cheapest with no list", x.cheapest(4, 0), BAD);
        due("cheapest with no list", x.cheapest(-1, 0), BAD);
        due("cheapest with no list", x.cheapest(0, 5), BAD);
        due("cheapest with no list", x.cheapest(0, -1), BAD);
    }

    private static void callsWithABadArgumentChangeNothing() {
        dueRefusedByBegin();
        int[] least = {0, 10, 1, 0}, greatest = {3, 600, 20, 30};
        for (int i = 0; i < 4; i++) {
            int setting = i;
            dueBad("set, too small", x -> x.set(setting, least[setting] - 1));
            dueBad("set, too large", x -> x.set(setting, greatest[setting] + 1));
        }
        for (int wrong : new int[] {-1, 4}) {
            dueBad("set(" + wrong + ", 10)", x -> x.set(wrong, 10));
            dueBad("makeUp(" + wrong + ")", x -> x.makeUp(wrong));
            dueBad("cheapest(" + wrong + ", 0)", x -> x.cheapest(wrong, 0));
            dueBad("setting(" + wrong + ")", x -> x.setting(wrong));
        }
        for (int wrong : new int[] {-1, 3}) {
            dueBad("arrive(" + wrong + ")", x -> x.arrive(wrong));
            dueBad("move(" + wrong + ", 2, 1)", x -> x.move(wrong, 2, 1));
            dueBad("move(0, " + wrong + ", 1)", x -> x.move(0, wrong, 1));
            dueBad("cost(0, " + wrong + ", 1)", x -> x.cost(0, wrong, 1));
            dueBad("test(" + wrong + ")", x -> x.test(wrong));
            dueBad("depart(" + wrong + ")", x -> x.depart(wrong));
            dueBad("track(" + wrong + ", 0)", x -> x.track(wrong, 0));
            dueBad("wagon(" + wrong + ", 0, 0)", x -> x.wagon(wrong, 0, 0));
        }
        dueBad("move to itself", x -> x.move(0, 0, 1));
        dueBad("move of none", x -> x.move(0, 2, 0));
        dueBad("move of nine", x -> x.move(0, 2, 9));
        dueBad("pause(0)", x -> x.pause(0));
        dueBad("pause(1001)", x -> x.pause(1001));
        dueBad("write(31)", x -> x.write(31));
        dueBad("write(127)", x -> x.write(127));
        dueBad("told(15)", x -> x.told(15));
        dueBad("find(0, 2)", x -> x.find(0, 2));
        for (int wrong : new int[] {-1, 2}) {
            dueBad("fault(" + wrong + ")", x -> x.fault(wrong));
            dueBad("keep(" + wrong + ")", x -> x.keep(wrong));
            dueBad("back(" + wrong + ")", x -> x.back(wrong));
        }
    }

    private static void dueRefusedByBegin() {
        for (int[] wrong : new int[][] {{1, 3}, {5, 3}, {3, 0}, {3, 9}}) {
            dueBad("begin(" + wrong[0] + ", " + wrong[1] + ")", x -> x.begin(wrong[0], wrong[1]));
        }
    }

    private static void dueBad(String name, Call call) {
        dueRefusedAltogether(name, "D E", call, BAD);
    }

    private static void callsThatAreNotPossibleChangeNothing() {
        dueRefusedAltogether("arrive, not safe", "Ax", x -> x.arrive(0), STATE);
        dueRefusedAltogether("arrive, not safe and more than C", "A Af Ax", x -> x.arrive(2), STATE);
        dueRefused("arrive with a fault", "A G", x -> x.arrive(2), STATE);
        dueRefused("list with a fault", "A 2", x -> x.list(), STATE);
        dueRefusedAltogether("move, not so many", "", x -> x.move(0, 2, 3), STATE);
        dueRefusedAltogether("move, none there", "", x -> x.move(2, 0, 1), STATE);
        dueRefusedAltogether("move, not safe", "", x -> x.move(1, 0, 1), STATE);
        dueRefusedAltogether("cost, not safe", "", x -> x.cost(1, 0, 1), STATE);
        dueRefusedAltogether("test of an empty track", "", x -> x.test(2), STATE);
        dueRefused("depart", "", x -> x.depart(0), STATE);
        dueRefusedAltogether("makeUp, no row", "", x -> x.makeUp(0), STATE);
        dueRefusedAltogether("back, nothing kept", "", x -> x.back(1), STATE);
        due("undo, nothing to undo", new ShuntYard().undo(), STATE);
        dueUnchanged("undo, nothing to undo", ShuntYard::new, ShuntYard::undo, Part.values());
        Supplier<ShuntYard> noList = () -> yardOf(6, "2A", "A");
        due("makeUp, no list", noList.get().makeUp(3), STATE);
        dueUnchanged("makeUp, no list", noList, x -> x.makeUp(3), Part.values());
    }

    private static void callsAboveAMaximumChangeNothing() {
        dueRefusedAltogether("arrive, one more than C", "2A", x -> x.arrive(0), FULL);
        dueRefusedAltogether("arrive on a full track", "A", x -> x.arrive(1), FULL);
        dueRefusedAltogether("move to a full track", "", x -> x.move(0, 1, 2), FULL);
        dueRefusedAltogether("cost to a full track", "", x -> x.cost(0, 1, 2), FULL);
        dueRefusedAltogether("write of a 61st byte", "A" + times(59, " "), x -> x.write('B'), FULL);
    }

    private static void refusedReadingChangesTheFaultAlone() {
        ShuntYard x = busy("A G");
        due("arrive", x.arrive(2), STATE);
        due("the kind", x.fault(0), 1);
        due("the place", x.fault(1), 2);
        dueTold("the reason stays", x, 11, 2);
        put(x, "A  2");
        due("list", x.list(), STATE);
        due("the place", x.fault(1), 3);
        dueTold("the reason stays", x, 11, 2);
    }

    private static void refusedDepartureChangesTheReasonAlone() {
        ShuntYard x = busy("");
        due("depart", x.depart(0), STATE);
        dueTold("the reason", x, 11, 3);
        due("the kind of the fault stays", x.fault(0), 1);
        due("its place stays", x.fault(1), 1);
    }

    private static void askingChangesNothing() {
        Call call = x -> {
            for (int i = -1; i <= 15; i++) {
                x.told(i);
                x.fault(i);
                x.setting(i);
                x.train(i);
                x.find(i, i % 2);
            }
            for (int i = 0; i < 15; i++) {
                x.track(i / 5, i % 5);
                x.wagon(i / 5, i % 5, i % 3);
                x.cheapest(3, i % 5);
                x.cost(i / 5, (i / 5 + 1) % 3, 1 + i % 5);
            }
            x.mean();
            return 0;
        };
        for (Part part : Part.values()) {
            // As many calls as the other parts need would be too many for one object here.
            if (part != Part.UNDONE) {
                dueUnchanged("asking", () -> busy("A 2"), call, part);
            }
        }
        dueUnchanged("asking for the reason that would be", () -> busy(""), x -> x.track(1, 4), Part.values());
        dueUnchanged("asking for the cheapest row", () -> busy(""), x -> x.cheapest(3, 0), Part.values());
        dueUnchanged("asking for the cost", () -> busy(""), x -> x.cost(0, 2, 1), Part.values());
    }

    private static void textAndImagesChangeAlone() {
        dueUnchanged("write", () -> busy(""), x -> x.write('A'), Part.PRESENT, Part.CHANGES, Part.UNDONE, Part.IMAGES,
                Part.LATEST);
        dueUnchanged("wipe", () -> busy("A"), ShuntYard::wipe, Part.PRESENT, Part.CHANGES, Part.UNDONE, Part.IMAGES,
                Part.LATEST);
        dueUnchanged("keep", () -> busy("A"), x -> x.keep(1), Part.PRESENT, Part.CHANGES, Part.UNDONE, Part.TEXT,
                Part.LATEST);
    }
}
