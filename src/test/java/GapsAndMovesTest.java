/** GAPS and MOVES: as many between as the gap tells, what a move takes along, and what it costs. */
public final class GapsAndMovesTest extends Edges {
    private GapsAndMovesTest() {
    }

    public static void main(String[] args) {
        atLeastAsManyAsTheGapTells();
        gapsInBothOrders();
        gapsBetweenNeighboursAlone();
        noGapBetweenTheSameKind();
        gapsFromTheBufferToTheOpenEnd();
        leastNumberBetween();
        gapOfATrackThatArrives();
        gapOfTheTrackToWhichOneMoves();
        gapOfTheTrackFromWhichOneMoves();
        aTrackThatIsNotSafeNow();
        aSettingLeavesTracksAsTheyAre();
        fromOneWagonToEight();
        asManyAsThereAre();
        inTheSameOrder();
        minutesOfAMove();
        minutesAtTheEndsOfTheSetting();
        explosivesCost5More();
        onlyThoseThatMoveCost();
        toItself();
        atMostCOnTheOther();
        accountsOfMoves();
        meanOfMoves();
        costIsWhatMoveAnswers();
        C.close();
    }

    private static void atLeastAsManyAsTheGapTells() {
        for (int gap = 0; gap <= 3; gap++) {
            ShuntYard x = yardWithGap(gap, 8, "Af " + times(gap, "B ") + "Cx");
            dueTrack("as many as the gap " + gap, x, 0, 1, 1);
            dueTold("as many as the gap " + gap, x, 5, 0);
            ShuntYard more = yardWithGap(gap, 8, "Af " + times(gap + 1, "B ") + "Cx");
            dueTrack("one more than the gap " + gap, more, 0, 1, 1);
            if (gap > 0) {
                ShuntYard fewer = yardWithGap(gap, 8, "Af " + times(gap - 1, "B ") + "Cx");
                dueTrack("one fewer than the gap " + gap, fewer, 0, 1, 0);
                dueTold("one fewer than the gap " + gap, fewer, 5, 1);
            }
        }
    }

    private static void gapsInBothOrders() {
        for (String row : new String[] {"Af 2B Ax", "Ax 2B Af"}) {
            ShuntYard x = yardWithGap(2, 8, row);
            dueTrack(row, x, 0, 1, 1);
            dueTrack(row, x, 0, 3, 2);
            x.set(0, 3);
            dueTrack(row, x, 0, 1, 0);
        }
    }

    private static void gapsBetweenNeighboursAlone() {
        // Between the fuel at the buffer and the explosives stand two common ones, but fuel too.
        ShuntYard x = yardWithGap(3, 8, "Af Bf 3B Ax", "Af B Bf 2B Ax", "Af 2B Bf B Ax");
        dueTrack("three behind the other fuel", x, 0, 3, 3);
        dueTrack("three behind the other fuel", x, 0, 1, 1);
        dueTrack("two behind the other fuel", x, 1, 3, 2);
        dueTrack("two behind the other fuel", x, 1, 1, 0);
        dueTrack("one behind the other fuel", x, 2, 3, 1);
        ShuntYard y = yardWithGap(2, 8, "Ax B Bx 2B Af", "Ax 2B Bx B Af");
        dueTrack("two behind the other explosives", y, 0, 1, 1);
        dueTrack("one behind the other explosives", y, 1, 1, 0);
    }

    private static void noGapBetweenTheSameKind() {
        ShuntYard x = yardWithGap(3, 8, "8Af", "8Ax", "Af B Af", "");
        for (int track = 0; track < 4; track++) {
            dueTrack("one kind alone", x, track, 1, 1);
            dueTrack("one kind alone", x, track, 3, NONE);
        }
    }

    private static void gapsFromTheBufferToTheOpenEnd() {
        ShuntYard x = yardWithGap(3, 8, "Af 6B Ax", "Ax 6B Af", "Af 3B Ax 3B", "3B Af 3B Ax");
        int[] wants = {6, 6, 3, 3};
        for (int track = 0; track < 4; track++) {
            dueTrack("from end to end", x, track, 3, wants[track]);
            dueTrack("from end to end", x, track, 1, 1);
        }
        ShuntYard close = yardWithGap(1, 8, "Af Ax 6B", "6B Af Ax");
        dueTrack("at the buffer", close, 0, 1, 0);
        dueTrack("at the buffer", close, 0, 3, 0);
        dueTrack("at the open end", close, 1, 1, 0);
        dueTrack("at the open end", close, 1, 3, 0);
    }

    private static void leastNumberBetween() {
        ShuntYard x = yardWithGap(0, 8, "Af B Ax 2B Af Ax", "Af 2B Ax B Af", "Af B Ax 2B Af", "");
        int[] wants = {0, 1, 1, NONE};
        for (int track = 0; track < 4; track++) {
            dueTrack("the least of several", x, track, 3, wants[track]);
        }
        ShuntYard y = yardWithGap(0, 8, "Af", "Ax", "8A", "4B Ax 3B");
        for (int track = 0; track < 4; track++) {
            dueTrack("no two such wagons", y, track, 3, NONE);
        }
        dueTrack("what stood on the track asked for before does not count", x, 0, 3, 0);
        dueTrack("what stood on the track asked for before does not count", x, 2, 3, 1);
    }

    private static void gapOfATrackThatArrives() {
        for (int gap = 1; gap <= 3; gap++) {
            ShuntYard x = yardWithGap(gap, 8, "Af", "", "Ax");
            due("one fewer", arrive(x, 0, times(gap - 1, "B ") + "Cx"), STATE);
            due("as many", arrive(x, 0, times(gap, "B ") + "Cx"), gap + 2);
            due("one fewer in the text", arrive(x, 1, "Af " + times(gap - 1, "B ") + "Cx"), STATE);
            due("as many in the text", arrive(x, 1, "Af " + times(gap, "B ") + "Cx"), gap + 2);
            due("one fewer, the other order", arrive(x, 2, times(gap - 1, "B ") + "Cf"), STATE);
            due("as many, the other order", arrive(x, 2, times(gap, "B ") + "Cf"), gap + 2);
        }
        due("no gap is needed", arrive(yardWithGap(0, 8, "Af", ""), 0, "Ax"), 2);
        ShuntYard x = yardWithGap(1, 2, "Af", "");
        due("also if it would hold more than C", arrive(x, 0, "Bx B"), STATE);
        due("though what would be too many is not safe alone", arrive(x, 0, "A Bf Ax"), STATE);
        due("safe, if it held more than C", arrive(x, 0, "A Ax"), FULL);
    }

    private static void gapOfTheTrackToWhichOneMoves() {
        for (int gap = 1; gap <= 3; gap++) {
            ShuntYard x = yardWithGap(gap, 8, "Af", times(gap, "B ") + "Cx");
            due("one fewer between", x.move(1, 0, gap), STATE);
            due("as many between", x.move(1, 0, gap + 1), 4 + gap + 1 + 2 + 5);
        }
        due("no gap is needed", yardWithGap(0, 8, "Af", "Ax").move(1, 0, 1), 4 + 1 + 2 + 5);
        ShuntYard x = yardWithGap(1, 2, "A Af", "A Ax");
        due("also if it would hold more than C", x.move(1, 0, 1), STATE);
        due("safe, if it held more than C", x.move(1, 0, 2), FULL);
    }

    private static void gapOfTheTrackFromWhichOneMoves() {
        ShuntYard x = yardWithGap(2, 8, "Af B Ax B", "");
        due("the explosives stay", x.move(0, 1, 1), STATE);
        due("the explosives go", x.move(0, 1, 2), 4 + 2 + 2 + 5);
        dueTrack("safe then", x, 0, 1, 1);
        ShuntYard y = yardWithGap(2, 8, "Af B Ax B", "");
        due("the common one stays", y.move(0, 1, 3), 4 + 3 + 2 + 5);
        ShuntYard z = yardWithGap(2, 8, "Af B Ax B", "");
        due("all of them go", z.move(0, 1, 4), STATE);
    }

    private static void aTrackThatIsNotSafeNow() {
        ShuntYard x = yardWithGap(1, 8, "Af Ax", "A", "");
        due("a wagon comes onto it", x.move(1, 0, 1), STATE);
        due("asked for", x.cost(1, 0, 1), STATE);
        due("both go", x.move(0, 2, 2), STATE);
        due("it is elsewhere", x.move(1, 2, 1), 4 + 1 + 2);
        due("it is made safe", x.move(0, 2, 1), 4 + 1 + 4 + 5);
        dueTold("safe then", x, 5, 0);
    }

    private static void aSettingLeavesTracksAsTheyAre() {
        ShuntYard x = yardWithGap(1, 8, "Af B Ax", "");
        dueTrack("as many as the gap", x, 0, 1, 1);
        x.set(0, 2);
        dueTrack("fewer than the gap", x, 0, 1, 0);
        dueStanding("they stay", x, 0, "0Af 1B 2Ax");
        dueTrack("the number between stays", x, 0, 3, 1);
        x.set(0, 1);
        dueTrack("as many again", x, 0, 1, 1);
    }

    private static void fromOneWagonToEight() {
        ShuntYard x = yardOf(8, "8A", "");
        dueEdge("few", x.cost(0, 1, 1), 4 + 1 + 2, x.cost(0, 1, 0), BAD);
        dueEdge("few", x.move(0, 1, 1), 4 + 1 + 2, x.move(0, 1, 0), BAD);
        x.undo();
        dueEdge("many", x.cost(0, 1, 8), 4 + 8 + 2, x.cost(0, 1, 9), BAD);
        dueEdge("many", x.move(0, 1, 8), 4 + 8 + 2, x.move(1, 0, 9), BAD);
        dueTrack("all of them", x, 1, 0, 8);
        for (int wrong : new int[] {-1, -8, LEAST_INT, GREATEST_INT}) {
            due("move(1, 0, " + wrong + ")", x.move(1, 0, wrong), BAD);
        }
    }

    private static void asManyAsThereAre() {
        for (int n = 1; n <= 7; n++) {
            ShuntYard x = yardOf(8, n + "A", "");
            due("one more than there are", x.move(0, 1, n + 1), STATE);
            due("as many as there are", x.move(0, 1, n), 4 + n + 2);
            due("none is left", x.move(0, 1, 1), STATE);
            dueTrack("empty", x, 0, 0, 0);
            dueTrack("an empty track is safe", x, 0, 1, 1);
        }
    }

    private static void inTheSameOrder() {
        ShuntYard x = yardOf(8, "A B C D", "E F");
        x.move(0, 1, 3);
        dueStanding("behind the others", x, 1, "4E 5F 1B 2C 3D");
        dueStanding("the inner one stays", x, 0, "0A");
        x.move(1, 0, 1);
        dueStanding("the outermost one", x, 0, "0A 3D");
        x.move(1, 0, 4);
        dueStanding("all of them", x, 0, "0A 3D 4E 5F 1B 2C");
        dueStanding("all of them", x, 1, "");
    }

    private static void minutesOfAMove() {
        for (int from = 0; from < 4; from++) {
            for (int to = 0; to < 4; to++) {
                for (int n = 1; from != to && n <= 8; n++) {
                    ShuntYard x = yardOf(8, "", "", "", "");
                    arrive(x, from, "8A");
                    int apart = from < to ? to - from : from - to;
                    due("move " + from + " " + to + " " + n, x.move(from, to, n), 4 + n + 2 * apart);
                    dueTold("move " + from + " " + to + " " + n, x, 2, 4 + n + 2 * apart);
                }
            }
        }
    }

    private static void minutesAtTheEndsOfTheSetting() {
        ShuntYard x = yardOf(8, "8A", "");
        x.set(2, 1);
        due("the least", x.move(0, 1, 1), 1 + 1 + 2);
        x.set(2, 20);
        due("the greatest", x.move(0, 1, 7), 20 + 7 + 2);
        dueTold("both", x, 7, 4 + 29);
    }

    private static void explosivesCost5More() {
        due("the only one", yardOf(8, "Ax", "").move(0, 1, 1), 4 + 1 + 2 + 5);
        due("the outermost one", yardOf(8, "7A Ax", "").move(0, 1, 8), 4 + 8 + 2 + 5);
        due("the innermost one", yardOf(8, "Ax 7A", "").move(0, 1, 8), 4 + 8 + 2 + 5);
        due("one in the middle", yardOf(8, "2A Ax A", "").move(0, 1, 3), 4 + 3 + 2 + 5);
        due("eight cost no more", yardOf(8, "8Ax", "").move(0, 1, 8), 4 + 8 + 2 + 5);
        due("fuel costs none", yardOf(8, "8Af", "").move(0, 1, 8), 4 + 8 + 2);
        due("a far one", yardOf(8, "Ax", "", "", "").move(0, 3, 1), 4 + 1 + 6 + 5);
    }

    private static void onlyThoseThatMoveCost() {
        due("the next inner one stays", yardOf(8, "Ax 2A", "").move(0, 1, 2), 4 + 2 + 2);
        due("it goes", yardOf(8, "Ax 2A", "").move(0, 1, 3), 4 + 3 + 2 + 5);
        due("it stands where they go", yardOf(8, "2A", "Ax").move(0, 1, 1), 4 + 1 + 2);
    }

    private static void toItself() {
        ShuntYard x = yardOf(8, "2A", "2B");
        due("move", x.move(0, 0, 1), BAD);
        due("move", x.move(1, 1, 1), BAD);
        due("cost", x.cost(1, 1, 1), BAD);
        dueStanding("it stays", x, 0, "0A 1A");
    }

    private static void atMostCOnTheOther() {
        ShuntYard x = yardOf(3, "3A", "2B", "3C");
        dueEdge("one is free", x.cost(0, 1, 1), 4 + 1 + 2, x.cost(0, 1, 2), FULL);
        due("none is free", x.cost(0, 2, 1), FULL);
        dueEdge("one is free", x.move(0, 1, 1), 4 + 1 + 2, x.move(0, 1, 1), FULL);
        dueStanding("full", x, 1, "3B 4B 2A");
        dueTold("one move was made", x, 6, 1);
    }

    private static void accountsOfMoves() {
        ShuntYard x = yardOf(3, "3A", "", "3B");
        dueTold("none yet", x, 6, 0);
        dueTold("none yet", x, 7, 0);
        x.move(0, 1, 1);
        x.move(0, 1, 2);
        x.move(0, 1, 1);
        x.move(1, 2, 1);
        x.cost(1, 0, 1);
        x.test(1);
        x.pause(9);
        dueTold("two were made", x, 6, 2);
        dueTold("their minutes", x, 7, 7 + 8);
        dueTold("the clock", x, 2, 7 + 8 + 11 + 9);
        x.undo();
        x.undo();
        x.undo();
        dueTold("one is undone", x, 6, 1);
        dueTold("its minutes too", x, 7, 7);
    }

    private static void meanOfMoves() {
        ShuntYard x = yardOf(8, "8A", "", "");
        C.dueFloat("no move", x.mean(), 0.0f);
        x.pause(5);
        C.dueFloat("a pause is none", x.mean(), 0.0f);
        x.move(0, 1, 1);
        C.dueFloat("one", x.mean(), 7.0f);
        x.move(0, 1, 1);
        x.move(0, 2, 1);
        C.dueFloat("a third", x.mean(), 23.0f / 3.0f);
        x.undo();
        C.dueFloat("two again", x.mean(), 7.0f);
        x.begin(2, 2);
        C.dueFloat("begun anew", x.mean(), 0.0f);
    }

    private static void costIsWhatMoveAnswers() {
        String[][] yards = {{"Af B Ax B", "2A", "3Af B"}, {"4A", "", "Ax 3A"}, {"A Bf", "2B Cx", ""}};
        for (String[] tracks : yards) {
            for (int from = -1; from <= 3; from++) {
                for (int to = -1; to <= 3; to++) {
                    for (int n = 0; n <= 9; n++) {
                        ShuntYard x = yardWithGap(2, 4, tracks);
                        int cost = x.cost(from, to, n);
                        dueTold("cost makes no move", x, 6, 0);
                        due("move(" + from + ", " + to + ", " + n + "), as cost told", x.move(from, to, n), cost);
                        dueTold("the clock, as cost told", x, 2, cost < 0 ? 0 : cost);
                    }
                }
            }
        }
    }
}
