/** BRAKES and DEPARTURES: until when a test holds, and the first reason that applies. */
public final class BrakesAndDeparturesTest extends Edges {
    private BrakesAndDeparturesTest() {
    }

    public static void main(String[] args) {
        minutesOfATest();
        holdsFromItsEndOn();
        holdsAsLongAsFewerHavePassed();
        holdsAsTheSettingTellsWhenAsked();
        timeThatPassesOtherwise();
        testedAgain();
        wagonThatComes();
        wagonThatLeaves();
        callsThatAreRefusedLeaveTheTest();
        testOfAnEmptyTrack();
        testOfATrackThatIsNotSafe();
        reason1ListIsEmpty();
        reason2TrackIsEmpty();
        reason3AnotherDestination();
        reason4OneElsewhere();
        reason5NotSafe();
        reason6NoTestHolds();
        reasonIsThatOfTheLatestRefusal();
        allItsWagonsLeave();
        destinationLeavesTheList();
        departingTakesNoTime();
        accountsOfDepartures();
        C.close();
    }

    private static void minutesOfATest() {
        for (int wagons = 1; wagons <= 8; wagons++) {
            ShuntYard x = yardOf(8, wagons + "A", "");
            due("at first", x.test(0), 5 + 2 * wagons);
            dueTold("the clock", x, 2, 5 + 2 * wagons);
            x.set(3, 0);
            due("besides 0 minutes", x.test(0), 2 * wagons);
            x.set(3, 30);
            due("besides 30 minutes", x.test(0), 30 + 2 * wagons);
            dueTold("the clock", x, 2, 35 + 6 * wagons);
            dueTold("tests are no moves", x, 6, 0);
            dueTold("nor are their minutes", x, 7, 0);
        }
    }

    private static ShuntYard tested(String... tracks) {
        ShuntYard x = yardOf(8, tracks);
        list(x, "A");
        x.test(0);
        return x;
    }

    private static void holdsFromItsEndOn() {
        ShuntYard x = tested("A", "A");
        dueTrack("at its end", x, 0, 2, 120);
        dueTrack("none was tested", x, 1, 2, 0);
        x.set(1, 10);
        x.set(3, 30);
        // The test takes longer than it holds, but its end counts.
        due("a long one", x.test(1), 32);
        dueTrack("at its end", x, 1, 2, 10);
        dueTrack("the other is over", x, 0, 2, 0);
    }

    private static void holdsAsLongAsFewerHavePassed() {
        for (int holds : new int[] {10, 11, 120, 599, 600}) {
            ShuntYard x = tested("A", "");
            x.set(1, holds);
            dueTrack("none has passed", x, 0, 2, holds);
            x.pause(1);
            dueTrack("one has passed", x, 0, 2, holds - 1);
            x.pause(holds - 2);
            dueTrack("one is left", x, 0, 2, 1);
            dueTrack("one is left", x, 0, 4, 0);
            x.pause(1);
            dueTrack("as many have passed", x, 0, 2, 0);
            dueTrack("as many have passed", x, 0, 4, 6);
            x.pause(1);
            dueTrack("one more has passed", x, 0, 2, 0);
            due("one more has passed", x.depart(0), STATE);
            x.undo();
            x.undo();
            due("one is left", x.depart(0), 1);
        }
    }

    private static void holdsAsTheSettingTellsWhenAsked() {
        ShuntYard x = tested("A", "");
        x.pause(50);
        x.set(1, 51);
        dueTrack("one more than have passed", x, 0, 2, 1);
        dueTrack("one more than have passed", x, 0, 4, 0);
        x.set(1, 50);
        dueTrack("as many as have passed", x, 0, 2, 0);
        dueTrack("as many as have passed", x, 0, 4, 6);
        x.set(1, 10);
        dueTrack("fewer than have passed", x, 0, 2, 0);
        x.set(1, 600);
        dueTrack("more than have passed", x, 0, 2, 550);
        due("it departs", x.depart(0), 1);
    }

    private static void timeThatPassesOtherwise() {
        ShuntYard x = tested("A", "B", "B", "B");
        x.test(2);
        dueTrack("by a test elsewhere", x, 0, 2, 120 - 7);
        x.move(1, 3, 1);
        dueTrack("by a move elsewhere", x, 0, 2, 120 - 7 - 9);
        list(x, "B");
        x.makeUp(2);
        dueTrack("by a row of moves elsewhere", x, 0, 2, 120 - 7 - 9 - 7);
        x.set(1, 24);
        dueTrack("one is left", x, 0, 2, 1);
        x.test(3);
        dueTrack("none is left", x, 0, 2, 0);
    }

    private static void testedAgain() {
        ShuntYard x = tested("2A", "");
        x.pause(119);
        due("before it runs out", x.test(0), 9);
        dueTrack("anew", x, 0, 2, 120);
        x.pause(500);
        due("when it has run out", x.test(0), 9);
        dueTrack("anew", x, 0, 2, 120);
        due("at once", x.test(0), 9);
        dueTrack("anew", x, 0, 2, 120);
    }

    private static void wagonThatComes() {
        ShuntYard x = tested("2A", "A", "");
        arrive(x, 0, "");
        dueTrack("none came", x, 0, 2, 120);
        arrive(x, 0, "A");
        dueTrack("one came in", x, 0, 2, 0);
        dueTrack("one came in", x, 0, 4, 4);
        x.undo();
        dueTrack("it is undone", x, 0, 2, 120);
        x.move(1, 0, 1);
        dueTrack("one was moved onto it", x, 0, 2, 0);
        x.undo();
        arrive(x, 2, "B");
        dueTrack("one came in elsewhere", x, 0, 2, 120);
        x.makeUp(1);
        dueTrack("a row of moves", x, 0, 2, 0);
    }

    private static void wagonThatLeaves() {
        ShuntYard x = tested("2A", "", "");
        x.test(0);
        x.move(0, 1, 1);
        dueTrack("one left", x, 0, 2, 0);
        x.move(1, 0, 1);
        dueTrack("it is back, but not tested", x, 0, 2, 0);
        x.test(0);
        x.move(0, 1, 2);
        dueTrack("all left", x, 0, 2, 0);
        dueTrack("none of it goes along", x, 1, 2, 0);
        x.test(1);
        x.depart(1);
        dueTrack("all departed", x, 1, 2, 0);
        arrive(x, 1, "A");
        dueTrack("the next ones are not tested", x, 1, 2, 0);
    }

    private static void callsThatAreRefusedLeaveTheTest() {
        ShuntYard x = yardOf(3, "2A Af", "Ax", "");
        x.test(0);
        due("arrive", arrive(x, 0, "A"), FULL);
        due("arrive", arrive(x, 0, "Ax"), STATE);
        due("move", x.move(1, 0, 1), STATE);
        due("move", x.move(0, 1, 1), STATE);
        due("move", x.move(0, 2, 4), STATE);
        due("cost", x.cost(0, 2, 1), 4 + 1 + 4);
        due("depart", x.depart(0), STATE);
        dueTrack("it holds", x, 0, 2, 120);
        x.pause(1000);
        due("a test of another", x.test(1), 7);
        dueTrack("it has run out", x, 0, 2, 0);
    }

    private static void testOfAnEmptyTrack() {
        ShuntYard x = yardOf(8, "A", "");
        dueEdge("one wagon, and none", x.test(0), 7, x.test(1), STATE);
        x.move(0, 1, 1);
        dueEdge("none then", x.test(1), 7, x.test(0), STATE);
        dueTold("the clock", x, 2, 7 + 7 + 7);
        due("far below", x.test(LEAST_INT), BAD);
        due("far above", x.test(GREATEST_INT), BAD);
    }

    private static void testOfATrackThatIsNotSafe() {
        ShuntYard x = yardWithGap(1, 8, "Af Ax", "");
        due("test", x.test(0), 9);
        dueTrack("it holds", x, 0, 2, 120);
    }

    /** Refused for this reason, which is told before and behind; it is no change. */
    private static void dueReason(String when, ShuntYard x, int track, int reason) {
        int changes = x.told(14);
        dueTrack(when, x, track, 4, reason);
        due(when + ": depart(" + track + ")", x.depart(track), STATE);
        dueTold(when, x, 11, reason);
        dueTold(when, x, 14, changes);
    }

    private static ShuntYard withList(String trains, ShuntYard x) {
        list(x, trains);
        return x;
    }

    private static void reason1ListIsEmpty() {
        dueReason("nothing but the list", tested("A", ""), 0, 1, "");
        dueReason("an empty track too", new ShuntYard(), 0, 1);
        dueReason("not safe and no test either", yardWithGap(1, 8, "Af Ax", "A"), 0, 1);
        dueReason("a list that was emptied", tested("A", ""), 0, 1, "  ");
    }

    private static void dueReason(String when, ShuntYard x, int track, int reason, String trains) {
        dueReason(when, withList(trains, x), track, reason);
    }

    private static void reason2TrackIsEmpty() {
        dueReason("nothing but the track", withList("A", new ShuntYard()), 2, 2);
        dueReason("one elsewhere too", tested("A", ""), 1, 2);
        ShuntYard x = tested("A", "");
        x.depart(0);
        dueReason("the next to the same destination", x, 0, 2, "A");
    }

    private static void reason3AnotherDestination() {
        dueReason("at the open end", tested("2A B", ""), 0, 3);
        dueReason("at the buffer", tested("B 2A", ""), 0, 3);
        dueReason("between", tested("A F A", ""), 0, 3);
        dueReason("all of them", tested("2B", ""), 0, 3);
        dueReason("the second of the list", tested("2B", ""), 0, 3, "AB");
        dueReason("one elsewhere too", tested("A B", "A"), 0, 3);
        dueReason("no test either", yardOf(8, "A", "B"), 1, 3, "A");
        ShuntYard x = yardWithGap(1, 8, "Af Bx", "");
        x.test(0);
        dueReason("not safe either", x, 0, 3, "A");
    }

    private static void reason4OneElsewhere() {
        dueReason("at the buffer", tested("A", "A B"), 0, 4);
        dueReason("at the open end", tested("A", "", "B A"), 0, 4);
        dueReason("on the last track", tested("A", "", "", "B A B"), 0, 4);
        dueReason("on the first track", yardOf(8, "B A", "", "2A"), 2, 4, "A");
        dueReason("no test either", yardOf(8, "A", "A"), 0, 4, "A");
        ShuntYard x = yardWithGap(1, 8, "Af Ax", "A");
        x.test(0);
        dueReason("not safe either", x, 0, 4, "A");
        ShuntYard y = tested("A", "B");
        due("others elsewhere do not matter", y.depart(0), 1);
    }

    private static void reason5NotSafe() {
        ShuntYard x = yardWithGap(2, 8, "Af A Ax", "");
        list(x, "A");
        dueReason("no test either", x, 0, 5);
        x.test(0);
        dueReason("tested", x, 0, 5);
        x.set(0, 1);
        dueTrack("safe then", x, 0, 4, 0);
        due("safe then", x.depart(0), 3);
        ShuntYard y = yardWithGap(1, 8, "A", "Bf Bx");
        list(y, "A");
        y.test(0);
        due("another one that is not safe does not matter", y.depart(0), 1);
    }

    private static void reason6NoTestHolds() {
        ShuntYard x = yardOf(8, "A", "B");
        list(x, "A");
        dueReason("never tested", x, 0, 6);
        x.test(1);
        dueReason("another one was tested", x, 0, 6);
        x.test(0);
        x.pause(120);
        dueReason("it ran out", x, 0, 6);
        x.undo();
        x.pause(119);
        due("the last minute", x.depart(0), 1);
    }

    private static void reasonIsThatOfTheLatestRefusal() {
        ShuntYard x = yardOf(8, "A", "A", "B", "");
        dueTold("none yet", x, 11, NONE);
        due("no track", x.depart(4), BAD);
        dueTold("none yet, for there was no such track", x, 11, NONE);
        dueReason("the first", x, 0, 1);
        list(x, "A");
        dueReason("another", x, 3, 2);
        dueReason("another", x, 2, 3);
        dueReason("another", x, 1, 4);
        due("no track", x.depart(-1), BAD);
        x.track(3, 4);
        x.move(0, 1, 1);
        x.test(1);
        due("one that departs", x.depart(1), 2);
        dueTold("it stays", x, 11, 4);
        x.undo();
        x.keep(0);
        x.begin(2, 2);
        x.back(0);
        dueTold("it stays", x, 11, 4);
    }

    private static void allItsWagonsLeave() {
        for (int wagons = 1; wagons <= 8; wagons++) {
            ShuntYard x = tested(wagons + "A", "2B");
            due("how many", x.depart(0), wagons);
            dueTrack("none is left", x, 0, 0, 0);
            dueTrack("the others stay", x, 1, 0, 2);
            dueTold("in the yard", x, 3, 2);
            due("the first is gone", x.find(0, 0), NONE);
            due("the last is gone", x.find(wagons - 1, 0), NONE);
            due("none stands there", x.wagon(0, 0, 0), NONE);
        }
    }

    private static void destinationLeavesTheList() {
        ShuntYard x = yardOf(8, "A", "B");
        list(x, "ABCDEFABCD");
        x.test(0);
        x.test(1);
        x.depart(0);
        dueTold("one of ten", x, 4, 9);
        for (int k = 0; k < 9; k++) {
            due("train(" + k + ") then", x.train(k), (k + 1) % 6);
        }
        due("train(9) then", x.train(9), NONE);
        due("the next", x.depart(1), 1);
        dueTold("two of ten", x, 4, 8);
        due("the next", x.train(0), 2);
        ShuntYard last = tested("A", "");
        last.depart(0);
        dueTold("the last one", last, 4, 0);
        due("the last one", last.train(0), NONE);
        dueTold("none to make up", last, 12, NONE);
    }

    private static void departingTakesNoTime() {
        ShuntYard x = tested("A", "");
        dueTold("before", x, 2, 7);
        x.depart(0);
        dueTold("behind", x, 2, 7);
    }

    private static void accountsOfDepartures() {
        ShuntYard x = tested("3A", "2B", "");
        x.test(1);
        dueTold("none yet", x, 8, 0);
        dueTold("none yet", x, 9, 0);
        x.depart(1);
        dueTold("a refused one", x, 8, 0);
        x.depart(0);
        dueTold("one train", x, 8, 1);
        dueTold("its wagons", x, 9, 3);
        list(x, "B");
        x.depart(1);
        dueTold("two trains", x, 8, 2);
        dueTold("their wagons", x, 9, 5);
        dueTold("they came", x, 10, 5);
        x.undo();
        dueTold("one is undone", x, 8, 1);
        dueTold("its wagons too", x, 9, 3);
    }
}
