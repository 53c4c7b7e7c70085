import java.util.function.Supplier;

/** THE CHEAPEST MOVES: when a train is made up, which rows are allowed, and which one of equals is told. */
public final class RowsTest extends Edges {
    private RowsTest() {
    }

    public static void main(String[] args) {
        madeUpByAllOfThemAlone();
        madeUpByAtLeastOne();
        madeUpForTheFirstOfTheList();
        madeUpThoughNotSafe();
        rowOfNoMoves();
        rowOfOneMove();
        rowOfTwoMoves();
        rowOfThreeMoves();
        rowOfFourMovesIsNone();
        mostFrom0To3();
        whatFrom0To4();
        noSuchRow();
        listIsEmpty();
        smallestAndLargestYards();
        asManyAsThereArePlaces();
        asFarAsTheGapAllows();
        tracksThatAreNotSafe();
        fewestMinutes();
        fewestMoves();
        lesserFrom();
        lesserTo();
        fewerWagons();
        laterMovesDecide();
        settingsOfTheMoment();
        makeUpIsOneChange();
        makeUpThatIsRefused();
        makeUpOfWhatIsMadeUp();
        C.close();
    }

    private static ShuntYard yard(int gap, int moveTime, int capacity, String... tracks) {
        ShuntYard x = yardWithGap(gap, capacity, tracks);
        x.set(2, moveTime);
        list(x, "A");
        for (int track = 0; track < tracks.length; track++) {
            x.test(track);
        }
        return x;
    }

    private static ShuntYard yardOfSix(String... tracks) {
        return yard(1, 4, 6, tracks);
    }

    private static void dueNoRow(String when, ShuntYard x, int most) {
        for (int what = 0; what <= 4; what++) {
            due(when + ": cheapest(" + most + ", " + what + ")", x.cheapest(most, what), NONE);
        }
        int changes = x.told(14);
        due(when + ": makeUp(" + most + ")", x.makeUp(most), STATE);
        dueTold(when, x, 14, changes);
    }

    /** The row is told by from, to and n of each move; making it up does what these moves do. */
    private static void dueRow(String when, Supplier<ShuntYard> made, int most, int minutes, int... moves) {
        ShuntYard x = made.get();
        due(when + ": its minutes", x.cheapest(most, 0), minutes);
        due(when + ": its moves", x.cheapest(most, 1), moves.length / 3);
        for (int i = 0; i < 3; i++) {
            due(when + ": what " + (i + 2), x.cheapest(most, i + 2), moves.length == 0 ? NONE : moves[i]);
        }
        int before = x.told(14);
        due(when + ": makeUp", x.makeUp(most), minutes);
        dueTold(when, x, 14, before < 8 ? before + 1 : 8);
        C.dueTrue(when + ": it is made up", x.told(12) >= 0);
        ShuntYard y = made.get();
        int sum = 0;
        for (int i = 0; i < moves.length; i += 3) {
            sum += y.move(moves[i], moves[i + 1], moves[i + 2]);
        }
        due(when + ": minutes of these moves", sum, minutes);
        dueAlike(when, present(x), present(y));
    }

    /** A row that needs so many moves is not found with one fewer. */
    private static void dueRowOf(int most, Supplier<ShuntYard> made, int minutes, int... moves) {
        String when = "a row of " + most;
        if (most > 0) {
            dueNoRow(when, made.get(), most - 1);
        }
        dueRow(when, made, most, minutes, moves);
    }

    private static void dueMadeUp(int want, String... tracks) {
        String when = "on the tracks " + String.join(" | ", tracks);
        ShuntYard x = yardOfSix(tracks);
        dueTold(when, x, 12, want);
        due(when + ": without a move", x.cheapest(0, 0), want == NONE ? NONE : 0);
    }

    private static void madeUpByAllOfThemAlone() {
        dueMadeUp(0, "2A", "B", "");
        dueMadeUp(1, "B", "2A", "");
        dueMadeUp(3, "", "B", "", "6A");
        dueMadeUp(NONE, "2A", "A", "");
        dueMadeUp(NONE, "2A", "", "B A");
        dueMadeUp(NONE, "2A", "", "A B");
        dueMadeUp(NONE, "A B", "", "");
        dueMadeUp(NONE, "B A", "", "");
        dueMadeUp(NONE, "A B A", "", "");
        dueMadeUp(NONE, "2B", "A C", "");
    }

    private static void madeUpByAtLeastOne() {
        dueMadeUp(0, "A", "");
        dueMadeUp(1, "", "A");
        dueMadeUp(NONE, "", "");
        dueMadeUp(NONE, "B", "2C");
    }

    private static void madeUpForTheFirstOfTheList() {
        ShuntYard x = yardOf(6, "A", "2B", "C");
        list(x, "BAC");
        dueTold("the first", x, 12, 1);
        x.test(1);
        x.depart(1);
        dueTold("the second", x, 12, 0);
        x.test(0);
        x.depart(0);
        dueTold("the last", x, 12, 2);
        x.test(2);
        x.depart(2);
        dueTold("none is left", x, 12, NONE);
        due("none is left", x.cheapest(3, 0), NONE);
        ShuntYard y = yardOf(6, "A", "2B");
        list(y, "CAB");
        dueTold("none of the first", y, 12, NONE);
        dueNoRow("none of the first", y, 3);
    }

    private static void madeUpThoughNotSafe() {
        ShuntYard x = yard(3, 4, 6, "Af Ax", "B");
        dueTold("not safe", x, 5, 1);
        dueTold("made up", x, 12, 0);
        due("made up", x.cheapest(0, 0), 0);
    }

    private static void rowOfNoMoves() {
        dueRowOf(0, () -> yardOfSix("A", "B"), 0);
        dueRow("three are not needed", () -> yardOfSix("B", "6A"), 3, 0);
    }

    private static void rowOfOneMove() {
        dueRowOf(1, () -> yardOfSix("A B", ""), 7, 0, 1, 1);
        dueRowOf(1, () -> yardOfSix("B 3A", ""), 9, 0, 1, 3);
        dueRowOf(1, () -> yardOfSix("A", "5A"), 7, 0, 1, 1);
    }

    private static void rowOfTwoMoves() {
        dueRowOf(2, () -> yardOfSix("B A", "B A", ""), 7 + 8, 0, 1, 1, 1, 2, 2);
        dueRowOf(2, () -> yardOfSix("A B", "A"), 8 + 7, 0, 1, 2, 1, 0, 1);
    }

    private static void rowOfThreeMoves() {
        dueRowOf(3, () -> yardOfSix("A B A", "A"), 7 + 8 + 7, 0, 1, 1, 0, 1, 2, 1, 0, 1);
        dueRowOf(3, () -> yardOfSix("B A", "B A", "B A", ""), 7 + 8 + 9, 0, 1, 1, 1, 2, 2, 2, 3, 3);
    }

    private static void rowOfFourMovesIsNone() {
        // A track with a B at its buffer must be emptied, but each other one sends too.
        dueNoRow("each with a B at the buffer", yard(1, 4, 8, "B A", "B A", "B A"), 3);
        dueNoRow("each with a B at the buffer", yard(1, 4, 8, "B A", "B A", "B A", "B A"), 3);
        dueNoRow("the last with a B alone", yard(1, 4, 8, "B A", "B A", "B A", "B"), 3);
        dueRow("the last empty", () -> yard(1, 4, 8, "B A", "B A", "B A", ""), 3, 24, 0, 1, 1, 1, 2, 2, 2, 3, 3);
    }

    private static void mostFrom0To3() {
        ShuntYard x = yardOfSix("A", "B");
        dueEdge("cheapest, the least", x.cheapest(0, 0), 0, x.cheapest(-1, 0), BAD);
        dueEdge("cheapest, the greatest", x.cheapest(3, 0), 0, x.cheapest(4, 0), BAD);
        dueEdge("makeUp, the least", x.makeUp(0), 0, x.makeUp(-1), BAD);
        dueEdge("makeUp, the greatest", x.makeUp(3), 0, x.makeUp(4), BAD);
        for (int wrong : new int[] {LEAST_INT, GREATEST_INT}) {
            due("cheapest(" + wrong + ", 0)", x.cheapest(wrong, 0), BAD);
            due("makeUp(" + wrong + ")", x.makeUp(wrong), BAD);
        }
    }

    private static void whatFrom0To4() {
        ShuntYard x = yardOfSix("A", "B A", "");
        dueEdge("the minutes", x.cheapest(1, 0), 7, x.cheapest(1, -1), BAD);
        dueEdge("the wagons", x.cheapest(1, 4), 1, x.cheapest(1, 5), BAD);
        due("far below", x.cheapest(1, LEAST_INT), BAD);
        due("far above", x.cheapest(1, GREATEST_INT), BAD);
        due("the moves", x.cheapest(1, 1), 1);
        due("from", x.cheapest(1, 2), 1);
        due("to", x.cheapest(1, 3), 0);
    }

    private static void noSuchRow() {
        dueNoRow("none of the first", yardOfSix("B", "C", ""), 3);
        dueNoRow("an empty yard", yardOfSix("", ""), 3);
        dueNoRow("no move is told", yardOfSix("A", "A"), 0);
    }

    private static void listIsEmpty() {
        ShuntYard x = yardOfSix("A", "A");
        list(x, "");
        for (int most = 0; most <= 3; most++) {
            dueNoRow("no list", x, most);
        }
        dueNoRow("a new object", new ShuntYard(), 3);
        ShuntYard alone = yardOf(6, "2A", "B");
        dueTold("all of them alone, but no list yet", alone, 12, NONE);
        dueNoRow("all of them alone, but no list yet", alone, 0);
        list(alone, "A");
        dueTold("a list", alone, 12, 0);
        list(alone, "");
        dueTold("no list any more", alone, 12, NONE);
        dueNoRow("no list any more", alone, 3);
    }

    private static void smallestAndLargestYards() {
        dueNoRow("one place each", yard(1, 4, 1, "A", "A"), 3);
        dueRow("one place each", () -> yard(1, 4, 1, "B", "A"), 0, 0);
        dueRow("32 wagons", () -> yard(1, 4, 8, "8B", "8C", "8D", "8A"), 3, 0);
        dueNoRow("no place is free", yard(1, 4, 8, "8A", "8B", "8C", "8A"), 3);
        dueNoRow("nine of them", yard(1, 4, 8, "8A", "A", "", ""), 3);
        dueRow("eight of them", () -> yard(1, 4, 8, "7A", "A", "", ""), 3, 7, 1, 0, 1);
        dueRow("seven at once", () -> yard(1, 4, 8, "B 7A", ""), 3, 4 + 7 + 2, 0, 1, 7);
    }

    private static void asManyAsThereArePlaces() {
        dueRow("three places", () -> yard(1, 4, 3, "A B", "A"), 3, 8 + 7, 0, 1, 2, 1, 0, 1);
        dueNoRow("two places", yard(1, 4, 2, "A B", "A"), 3);
        dueRow("four places", () -> yard(1, 4, 4, "B A", "B A", "B A", ""), 3, 24, 0, 1, 1, 1, 2, 2, 2, 3, 3);
        dueRow("three places", () -> yard(1, 4, 3, "B A", "B A", "B A", ""), 3, 24, 0, 1, 1, 1, 3, 2, 2, 3, 1);
        dueNoRow("two places", yard(1, 4, 2, "B A", "B A", "B A", ""), 3);
    }

    private static void asFarAsTheGapAllows() {
        dueRow("as many between as the gap", () -> yard(1, 4, 6, "Af", "A Ax"), 3, 4 + 2 + 2 + 5, 1, 0, 2);
        dueNoRow("one fewer", yard(2, 4, 6, "Af", "A Ax"), 3);
        dueRow("as many between as the gap", () -> yard(2, 4, 6, "Af", "2A Ax"), 3, 4 + 3 + 2 + 5, 1, 0, 3);
        dueNoRow("one fewer", yard(3, 4, 6, "Af", "2A Ax"), 3);
        dueRow("no gap", () -> yard(0, 4, 6, "Af", "Ax"), 3, 7, 0, 1, 1);
        dueRow("what stands on the other track", () -> yard(1, 4, 6, "A Bf", "Cx", "D"), 3, 9, 0, 2, 1);
        dueRow("no gap there", () -> yard(0, 4, 6, "A Bf", "Cx", "D"), 3, 7, 0, 1, 1);
    }

    private static void tracksThatAreNotSafe() {
        dueRow("it is made safe", () -> yard(1, 4, 6, "Af Bx", ""), 3, 12, 0, 1, 1);
        dueNoRow("none comes onto it", yard(2, 4, 6, "Af Ax", "A"), 3);
        dueRow("one comes between", () -> yard(1, 4, 6, "Af Ax", "A"), 3, 12 + 13, 0, 1, 1, 1, 0, 2);
        dueNoRow("what stays is not safe", yard(1, 4, 6, "Bf Bx A B", ""), 3);
        dueRow("one that no move meets", () -> yard(1, 4, 6, "Bf Bx", "A", "A"), 3, 7, 1, 2, 1);
    }

    private static void fewestMinutes() {
        dueRow("the lighter move", () -> yardOfSix("2A", "A"), 3, 7, 1, 0, 1);
        dueRow("the nearer track", () -> yardOfSix("A B", "", ""), 3, 7, 0, 1, 1);
        dueRow("five rather than one with explosives", () -> yard(1, 4, 8, "Ax", "5A"), 3, 4 + 5 + 2, 1, 0, 5);
        dueRow("six cost as much as it", () -> yard(1, 4, 8, "Ax", "6A"), 3, 4 + 1 + 2 + 5, 0, 1, 1);
    }

    private static void fewestMoves() {
        // The Ax takes 9; the 2A and then the Af behind it take 5 and 4.
        dueRow("one, not two", () -> yard(1, 1, 4, "Ax", "Af 2A"), 3, 9, 0, 1, 1);
        // The B to 1, all three to 0 and the B back take 4 + 6 + 4; its first move would come before.
        dueRow("two, not three", () -> yard(1, 1, 4, "Ax B", "2A"), 3, 14, 0, 1, 2, 1, 0, 1);
        dueRow("two, not three", () -> yard(1, 2, 3, "A", "A Bx"), 3, 21, 1, 0, 2, 0, 1, 1);
    }

    private static void lesserFrom() {
        dueRow("of one move", () -> yard(1, 1, 3, "A", "A"), 3, 4, 0, 1, 1);
        dueRow("of two moves", () -> yard(0, 4, 3, "Ax", "Af", "Ax", ""), 3, 21, 0, 2, 1, 1, 2, 1);
        dueRow("though more wagons", () -> yard(2, 1, 4, "Af A", "A", "Af"), 3, 9, 0, 1, 2, 2, 1, 1);
        dueRow("though to a greater one", () -> yard(2, 4, 4, "2B", "B 2A", "B"), 3, 17, 1, 2, 3, 2, 1, 2);
        dueRow("of three moves", () -> yard(1, 1, 4, "A", "Ax B"), 3, 13, 0, 1, 1, 1, 0, 2, 0, 1, 1);
        dueRow("of three moves, though more wagons", () -> yard(0, 1, 3, "Af B", "A", "Ax"), 3, 14,
                0, 1, 2, 1, 0, 1, 1, 2, 2);
    }

    private static void lesserTo() {
        dueRow("of one move", () -> yard(0, 6, 2, "", "B Af", ""), 3, 9, 1, 0, 1);
        dueRow("of two moves", () -> yard(1, 15, 3, "", "Ax B A", ""), 3, 37, 1, 0, 2, 0, 1, 1);
        dueRow("though more wagons", () -> yard(0, 1, 4, "A Af B", "A", ""), 3, 10, 0, 1, 3, 1, 0, 1);
        dueRow("of three moves", () -> yard(0, 1, 3, "", "A B Ax", ""), 3, 17, 1, 0, 1, 1, 2, 1, 1, 0, 1);
    }

    private static void fewerWagons() {
        dueRow("of two moves", () -> yard(1, 2, 4, "B Af B Bf", "", ""), 3, 13, 0, 1, 2, 0, 2, 1);
        dueRow("of three moves", () -> yard(3, 18, 4, "B A Bx A", "", ""), 3, 70, 0, 1, 1, 0, 2, 1, 0, 1, 1);
    }

    private static void laterMovesDecide() {
        dueRow("the second, by from", () -> yard(1, 1, 4, "A", "A B", ""), 3, 8, 1, 2, 1, 0, 1, 1);
        dueRow("the second, by to", () -> yard(1, 4, 3, "B A B", "", ""), 3, 15, 0, 1, 2, 1, 0, 1);
        dueRow("the second of three, by from", () -> yard(1, 4, 3, "A B A", "", "A"), 3, 23,
                0, 1, 2, 0, 1, 1, 1, 2, 2);
        dueRow("the second of three, by from, though more wagons", () -> yard(1, 10, 4, "A", "A", "A", "Af"), 3, 40,
                0, 1, 1, 1, 2, 2, 3, 2, 1);
        dueRow("the second of three, by to", () -> yard(3, 1, 4, "Bx Af B A", "", ""), 3, 15,
                0, 1, 3, 1, 0, 2, 0, 1, 1);
        dueRow("the second of three, by n", () -> yard(1, 19, 4, "Ax Bf", "B Af 2A", ""), 3, 69,
                0, 2, 1, 1, 0, 1, 1, 0, 2);
        dueRow("the third, by from", () -> yard(2, 1, 4, "A Bx Af", "", ""), 3, 19, 0, 1, 1, 0, 2, 1, 0, 1, 1);
        dueRow("the third, by to", () -> yard(0, 1, 4, "", "", "A Bf Ax"), 3, 18, 2, 1, 1, 2, 1, 2, 1, 0, 1);
    }

    private static void settingsOfTheMoment() {
        ShuntYard x = yard(1, 1, 6, "A B", "");
        due("the least minutes of a move", x.cheapest(3, 0), 1 + 1 + 2);
        x.set(2, 20);
        due("the greatest minutes of a move", x.cheapest(3, 0), 20 + 1 + 2);
        due("made", x.makeUp(3), 23);
        ShuntYard y = yard(0, 1, 3, "Ax B", "Af");
        dueRow("three cheap ones", () -> yard(0, 1, 3, "Ax B", "Af"), 3, 13, 0, 1, 1, 1, 0, 2, 0, 1, 1);
        dueRow("two of them at most", () -> yard(0, 1, 3, "Ax B", "Af"), 2, 14, 0, 1, 2, 1, 0, 1);
        y.set(2, 20);
        due("moves are dearer now", y.cheapest(3, 1), 2);
    }

    private static void makeUpIsOneChange() {
        ShuntYard x = yardOf(6, "A B A", "A");
        list(x, "A");
        int changes = x.told(14);
        due("three moves", x.makeUp(3), 22);
        dueTold("one change", x, 14, changes + 1);
        dueTold("three moves", x, 6, 3);
        dueTold("their minutes", x, 7, 22);
        dueTold("the clock", x, 2, 22);
        C.dueFloat("their mean", x.mean(), 22.0f / 3.0f);
        due("undone at once", x.undo(), changes);
        dueStanding("undone", x, 0, "0A 1B 2A");
        dueTold("no move", x, 6, 0);
        dueTold("the clock", x, 2, 0);
    }

    private static void makeUpThatIsRefused() {
        Supplier<ShuntYard> made = () -> yardOfSix("A B A", "A");
        for (int wrong : new int[] {-1, 0, 1, 2, 4}) {
            due("makeUp(" + wrong + ")", made.get().makeUp(wrong), wrong < 0 || wrong > 3 ? BAD : STATE);
            dueUnchanged("makeUp(" + wrong + ")", made, x -> x.makeUp(wrong), Part.PRESENT, Part.CHANGES, Part.LATEST);
        }
    }

    private static void makeUpOfWhatIsMadeUp() {
        for (int most = 0; most <= 3; most++) {
            ShuntYard x = yardOf(6, "B", "2A");
            list(x, "A");
            x.test(1);
            int changes = x.told(14);
            due("no minutes", x.makeUp(most), 0);
            dueTold("a change", x, 14, changes + 1);
            dueTold("no move", x, 6, 0);
            dueTrack("the test holds", x, 1, 2, 120);
        }
    }
}
