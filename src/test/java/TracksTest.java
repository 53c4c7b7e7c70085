/** TRACKS AND WAGONS: how many tracks and places, numbers, destinations, kinds, the clock, the settings. */
public final class TracksTest extends Edges {
    private static final int[] FIRST = {1, 120, 4, 5}, LEAST = {0, 10, 1, 0}, GREATEST = {3, 600, 20, 30};

    private TracksTest() {
    }

    public static void main(String[] args) {
        tracksFrom2To4();
        threeTracksAtFirst();
        tracksFrom0ToKMinus1();
        placesFrom1To8();
        sixPlacesAtFirst();
        atMostCByArriving();
        atMostCByMoving();
        placesFromTheBufferOn();
        numbersFrom0OnAsTheyCome();
        numbersAreNotGivenTwice();
        noNumberForWagonsThatAreRefused();
        numbersAreUndone();
        destinationsAndKinds();
        clockIs0AtFirst();
        pauseFrom1To1000();
        settingsHaveRanges();
        settingsStayBehindBegin();
        beginTellsHowManyThereWere();
        beginEmptiesAll();
        arrivingTakesNoTime();
        arrivingOfNone();
        everythingToldAtItsEnds();
        trainsInTheList();
        findingAtTheEnds();
        clockOfALongRun();
        wagonsOfALongRun();
        C.close();
    }

    private static void tracksFrom2To4() {
        ShuntYard x = new ShuntYard();
        dueEdge("few tracks", x.begin(2, 6), 0, x.begin(1, 6), BAD);
        dueTold("two", x, 0, 2);
        dueEdge("many tracks", x.begin(4, 6), 0, x.begin(5, 6), BAD);
        dueTold("four", x, 0, 4);
        for (int wrong : new int[] {0, -1, -2, LEAST_INT, GREATEST_INT}) {
            due("begin(" + wrong + ", 6)", x.begin(wrong, 6), BAD);
        }
        dueTold("four still", x, 0, 4);
        dueTold("two changes", x, 14, 2);
    }

    private static void threeTracksAtFirst() {
        ShuntYard x = new ShuntYard();
        dueTold("new", x, 0, 3);
        dueEdge("arrive", arrive(x, 2, "A"), 1, x.arrive(3), BAD);
    }

    private static void tracksFrom0ToKMinus1() {
        for (int k = 2; k <= 4; k++) {
            for (int last : new int[] {0, k - 1}) {
                int none = last == 0 ? -1 : k;
                int other = k - 1 - last;
                String of = " of track " + last + " of " + k;
                ShuntYard x = new ShuntYard();
                x.begin(k, 6);
                put(x, "A");
                dueEdge("arrive" + of, x.arrive(last), 1, x.arrive(none), BAD);
                int far = 4 + 1 + 2 * (k - 1);
                dueEdge("cost from" + of, x.cost(last, other, 1), far, x.cost(none, other, 1), BAD);
                dueEdge("move from" + of, x.move(last, other, 1), far, x.move(none, other, 1), BAD);
                dueEdge("cost to" + of, x.cost(other, last, 1), far, x.cost(other, none, 1), BAD);
                dueEdge("move to" + of, x.move(other, last, 1), far, x.move(other, none, 1), BAD);
                dueEdge("track" + of, x.track(last, 0), 1, x.track(none, 0), BAD);
                dueEdge("wagon" + of, x.wagon(last, 0, 0), 0, x.wagon(none, 0, 0), BAD);
                due("find" + of, x.find(0, 0), last);
                dueEdge("test" + of, x.test(last), 7, x.test(none), BAD);
                x.list();
                dueTold("made up" + of, x, 12, last);
                dueEdge("depart" + of, x.depart(last), 1, x.depart(none), BAD);
            }
        }
    }

    private static void placesFrom1To8() {
        ShuntYard x = new ShuntYard();
        dueEdge("few places", x.begin(3, 1), 0, x.begin(3, 0), BAD);
        dueTold("one", x, 1, 1);
        dueEdge("many places", x.begin(3, 8), 0, x.begin(3, 9), BAD);
        dueTold("eight", x, 1, 8);
        for (int wrong : new int[] {-1, -8, LEAST_INT, GREATEST_INT}) {
            due("begin(3, " + wrong + ")", x.begin(3, wrong), BAD);
        }
        due("both are wrong", x.begin(1, 9), BAD);
        dueTold("eight still", x, 1, 8);
        dueTold("two changes", x, 14, 2);
    }

    private static void sixPlacesAtFirst() {
        dueTold("new", new ShuntYard(), 1, 6);
        dueEdge("arrive", arrive(new ShuntYard(), 0, "6A"), 6, arrive(new ShuntYard(), 0, "7A"), FULL);
    }

    private static void atMostCByArriving() {
        for (int c = 1; c <= 8; c++) {
            ShuntYard x = yardOf(c, "", "", "");
            due("as many as there are places", arrive(x, 0, c + "A"), c);
            due("one more", arrive(x, 0, "B"), FULL);
            due("none more", arrive(x, 0, ""), c);
            if (c < 8) {
                due("one more at once", arrive(x, 1, c + 1 + "A"), FULL);
            }
            for (int i = 1; i <= c; i++) {
                due("one by one", arrive(x, 2, "C"), i);
            }
            due("one more then", arrive(x, 2, "C"), FULL);
            dueTold("the yard", x, 3, 2 * c);
        }
    }

    private static void atMostCByMoving() {
        for (int c = 2; c <= 8; c++) {
            ShuntYard x = yardOf(c, c + "A", "B");
            due("one more than there are places", x.move(0, 1, c), FULL);
            due("one more, asked for", x.cost(0, 1, c), FULL);
            due("as many as there are places, asked for", x.cost(0, 1, c - 1), 4 + c - 1 + 2);
            due("as many as there are places", x.move(0, 1, c - 1), 4 + c - 1 + 2);
            due("to a full track", x.move(0, 1, 1), FULL);
            dueTrack("full", x, 1, 0, c);
        }
        ShuntYard one = yardOf(1, "A", "B", "");
        due("one place, taken", one.move(0, 1, 1), FULL);
        due("one place, free", one.move(0, 2, 1), 4 + 1 + 4);
    }

    private static void placesFromTheBufferOn() {
        ShuntYard x = yardOf(8, "A B C D E F A B", "C", "");
        for (int place = 0; place < 8; place++) {
            due("number at the place " + place, x.wagon(0, place, 0), place);
            due("place of the number " + place, x.find(place, 1), place);
        }
        due("behind a full track", x.wagon(0, 8, 0), NONE);
        dueEdge("the open end", x.wagon(1, 0, 0), 8, x.wagon(1, 1, 0), NONE);
        due("an empty track", x.wagon(2, 0, 0), NONE);
        dueEdge("before the buffer", x.wagon(0, 0, 0), 0, x.wagon(0, -1, 0), BAD);
        due("before the buffer of an empty track", x.wagon(2, -1, 0), BAD);
        due("far before", x.wagon(0, LEAST_INT, 0), BAD);
        due("far behind", x.wagon(0, GREATEST_INT, 0), NONE);
        x.move(0, 2, 8);
        due("gone, at the buffer", x.wagon(0, 0, 0), NONE);
        due("gone, at the open end", x.wagon(0, 7, 0), NONE);
    }

    private static void numbersFrom0OnAsTheyCome() {
        ShuntYard x = new ShuntYard();
        arrive(x, 2, "2A");
        arrive(x, 0, "");
        arrive(x, 0, "B");
        arrive(x, 2, "C");
        dueStanding("the first, the second and the fourth", x, 2, "0A 1A 3C");
        dueStanding("the third", x, 0, "2B");
        dueTold("they came", x, 10, 4);
    }

    private static void numbersAreNotGivenTwice() {
        ShuntYard x = yardOf(6, "2A", "");
        list(x, "A");
        x.test(0);
        x.depart(0);
        dueTold("none is there", x, 3, 0);
        arrive(x, 1, "B");
        dueStanding("behind those that departed", x, 1, "2B");
        x.begin(2, 6);
        arrive(x, 0, "C");
        dueStanding("from 0 on behind begin", x, 0, "0C");
        dueTold("come since then", x, 10, 1);
    }

    private static void noNumberForWagonsThatAreRefused() {
        ShuntYard x = yardOf(2, "A Af", "");
        due("not safe", arrive(x, 0, "Ax"), STATE);
        due("too many", arrive(x, 1, "3A"), FULL);
        due("a fault behind wagons", arrive(x, 1, "A ?"), STATE);
        due("no track", arrive(x, 2, "A"), BAD);
        arrive(x, 1, "B");
        dueStanding("the next number", x, 1, "2B");
    }

    private static void numbersAreUndone() {
        ShuntYard x = yardOf(6, "A", "");
        x.keep(0);
        arrive(x, 1, "2B");
        x.undo();
        arrive(x, 1, "C");
        dueStanding("given again", x, 1, "1C");
        arrive(x, 1, "D");
        x.back(0);
        arrive(x, 1, "E");
        dueStanding("as in the image", x, 1, "1E");
    }

    private static void destinationsAndKinds() {
        for (int destination = 0; destination <= 5; destination++) {
            for (int kind = 0; kind <= 2; kind++) {
                ShuntYard x = new ShuntYard();
                String word = (char) ('A' + destination) + new String[] {"", "f", "x"}[kind];
                arrive(x, 0, "B " + word);
                due("the destination of " + word, x.wagon(0, 1, 1), destination);
                due("the kind of " + word, x.wagon(0, 1, 2), kind);
                due("the number of " + word, x.wagon(0, 1, 0), 1);
            }
        }
        ShuntYard x = yardOf(6, "A", "");
        for (int what : new int[] {-1, 3, LEAST_INT, GREATEST_INT}) {
            due("wagon(0, 0, " + what + ")", x.wagon(0, 0, what), BAD);
            due("wagon(0, 1, " + what + ")", x.wagon(0, 1, what), BAD);
        }
    }

    private static void clockIs0AtFirst() {
        ShuntYard x = new ShuntYard();
        dueTold("new", x, 2, 0);
        x.pause(1);
        dueTold("later", x, 2, 1);
        x.begin(2, 2);
        dueTold("begun anew", x, 2, 0);
    }

    private static void pauseFrom1To1000() {
        ShuntYard x = new ShuntYard();
        dueEdge("the longest pause", x.pause(1000), 1000, x.pause(1001), BAD);
        dueEdge("the shortest pause", x.pause(1), 1001, x.pause(0), BAD);
        for (int wrong : new int[] {-1, -1000, LEAST_INT, GREATEST_INT}) {
            due("pause(" + wrong + ")", x.pause(wrong), BAD);
        }
        dueTold("two pauses", x, 2, 1001);
        dueTold("two changes", x, 14, 2);
    }

    private static void settingsHaveRanges() {
        for (int i = 0; i < 4; i++) {
            ShuntYard x = new ShuntYard();
            due("the first value of " + i, x.setting(i), FIRST[i]);
            dueEdge("least of " + i, x.set(i, LEAST[i]), FIRST[i], x.set(i, LEAST[i] - 1), BAD);
            due("it is set", x.setting(i), LEAST[i]);
            dueEdge("greatest of " + i, x.set(i, GREATEST[i]), LEAST[i], x.set(i, GREATEST[i] + 1), BAD);
            due("it is set", x.setting(i), GREATEST[i]);
            for (int other = 0; other < 4; other++) {
                due("the others stay", x.setting(other), other == i ? GREATEST[i] : FIRST[other]);
            }
            dueTold("two changes", x, 14, 2);
            due("far too small", x.set(i, LEAST_INT), BAD);
            due("far too large", x.set(i, GREATEST_INT), BAD);
        }
        ShuntYard x = new ShuntYard();
        dueEdge("the first setting", x.setting(0), 1, x.setting(-1), BAD);
        dueEdge("the last setting", x.setting(3), 5, x.setting(4), BAD);
        dueEdge("set the first", x.set(0, 2), 1, x.set(-1, 2), BAD);
        dueEdge("set the last", x.set(3, 10), 5, x.set(4, 10), BAD);
    }

    private static void settingsStayBehindBegin() {
        ShuntYard x = new ShuntYard();
        for (int i = 0; i < 4; i++) {
            x.set(i, GREATEST[i]);
        }
        x.begin(4, 1);
        for (int i = 0; i < 4; i++) {
            due("setting(" + i + ") behind begin", x.setting(i), GREATEST[i]);
        }
    }

    private static void beginTellsHowManyThereWere() {
        ShuntYard x = new ShuntYard();
        due("a new yard", x.begin(4, 8), 0);
        for (int track = 0; track < 4; track++) {
            arrive(x, track, "8A");
        }
        dueTold("a full yard", x, 3, 32);
        dueTold("all of them came", x, 10, 32);
        due("no one more", arrive(x, 3, "A"), FULL);
        due("a full yard", x.begin(2, 1), 32);
        due("an empty one", x.begin(2, 1), 0);
        arrive(x, 1, "A");
        due("one wagon on the last track", x.begin(2, 1), 1);
    }

    private static void beginEmptiesAll() {
        ShuntYard x = yardOf(6, "2A", "A", "B Cf");
        list(x, "ABC");
        x.move(1, 0, 1);
        x.test(0);
        x.depart(0);
        x.test(2);
        x.begin(3, 6);
        for (int what = 2; what <= 10; what++) {
            dueTold("begun anew", x, what, 0);
        }
        dueTold("begun anew", x, 12, NONE);
        C.dueFloat("mean() of no moves", x.mean(), 0.0f);
        due("train(0)", x.train(0), NONE);
        for (int track = 0; track < 3; track++) {
            dueTrack("begun anew", x, track, 0, 0);
            dueTrack("begun anew", x, track, 2, 0);
        }
        arrive(x, 2, "B");
        dueTrack("a test from before holds no more", x, 2, 2, 0);
    }

    private static void arrivingTakesNoTime() {
        ShuntYard x = new ShuntYard();
        x.pause(3);
        arrive(x, 0, "6A");
        dueTold("the clock", x, 2, 3);
        dueTold("no move", x, 6, 0);
    }

    private static void arrivingOfNone() {
        ShuntYard x = yardOf(3, "3A", "");
        int before = x.told(14);
        due("on a full track", arrive(x, 0, ""), 3);
        due("on an empty one", arrive(x, 1, "   "), 0);
        dueTold("two changes", x, 14, before + 2);
        dueTold("three wagons", x, 10, 3);
        ShuntYard y = yardWithGap(1, 3, "Af Ax", "");
        due("on a track that is not safe", arrive(y, 0, ""), STATE);
    }

    private static void everythingToldAtItsEnds() {
        ShuntYard x = new ShuntYard();
        dueEdge("told, the first", x.told(0), 3, x.told(-1), BAD);
        dueEdge("told, the last", x.told(14), 0, x.told(15), BAD);
        due("told far below", x.told(LEAST_INT), BAD);
        due("told far above", x.told(GREATEST_INT), BAD);
        dueEdge("track, the first", x.track(0, 0), 0, x.track(0, -1), BAD);
        dueEdge("track, the last", x.track(0, 4), 1, x.track(0, 5), BAD);
        due("track far below", x.track(0, LEAST_INT), BAD);
        due("track far above", x.track(0, GREATEST_INT), BAD);
        ShuntYard y = yardWithGap(0, 8, "4Af 4Ax", "4Ax 4Af", "Af 6B Ax", "7Af Ax");
        dueTold("none is unsafe without a gap", y, 5, 0);
        y.set(0, 1);
        dueTold("three are unsafe", y, 5, 3);
        ShuntYard z = yardWithGap(3, 8, "4Af 4Ax", "4Ax 4Af", "Af 2B Ax", "7Af Ax");
        dueTold("all four are unsafe", z, 5, 4);
        ShuntYard last = yardWithGap(1, 8, "", "", "", "Af Ax");
        dueTold("the last alone is unsafe", last, 5, 1);
    }

    private static void trainsInTheList() {
        ShuntYard x = new ShuntYard();
        dueTold("none at first", x, 4, 0);
        due("train(0) of none", x.train(0), NONE);
        dueEdge("an empty list", x.train(0), NONE, x.train(-1), BAD);
        due("ten", list(x, "ABCDEFABCF"), 10);
        dueTold("ten", x, 4, 10);
        dueEdge("the first train", x.train(0), 0, x.train(-1), BAD);
        dueEdge("the last train", x.train(9), 5, x.train(10), NONE);
        due("far below", x.train(LEAST_INT), BAD);
        due("far above", x.train(GREATEST_INT), NONE);
        due("one", list(x, "F"), 1);
        dueEdge("the one", x.train(0), 5, x.train(1), NONE);
    }

    private static void findingAtTheEnds() {
        ShuntYard x = yardOf(8, "A", "", "8B", "7C D");
        dueEdge("the first", x.find(0, 0), 0, x.find(-1, 0), BAD);
        dueEdge("the last", x.find(16, 0), 3, x.find(17, 0), NONE);
        due("the last place", x.find(16, 1), 7);
        due("the buffer", x.find(9, 1), 0);
        due("the third track", x.find(8, 0), 2);
        due("far below", x.find(LEAST_INT, 0), BAD);
        due("far above", x.find(GREATEST_INT, 0), NONE);
        for (int what : new int[] {-1, 2, LEAST_INT, GREATEST_INT}) {
            due("find(0, " + what + ")", x.find(0, what), BAD);
            due("find(17, " + what + ")", x.find(17, what), BAD);
        }
        list(x, "A");
        x.test(0);
        x.depart(0);
        due("departed", x.find(0, 0), NONE);
        due("departed", x.find(0, 1), NONE);
        due("nothing at first", new ShuntYard().find(0, 0), NONE);
    }

    /** An object is used for 512 calls at most. */
    private static void clockOfALongRun() {
        ShuntYard x = new ShuntYard();
        for (int call = 1; call <= 510; call++) {
            due("pause", x.pause(1000), 1000 * call);
        }
        dueTold("the call 511", x, 2, 510000);
        due("the call 512", x.undo(), 7);
    }

    private static void wagonsOfALongRun() {
        ShuntYard x = new ShuntYard();
        x.begin(2, 8);
        put(x, "A A A A A A A A");
        int departed = 0;
        // 17 calls up to here, and 25 each time; the last ones ask.
        for (int turn = 0; turn < 18; turn++) {
            due("list", x.list(), 8);
            for (int i = 0; i < 8; i++) {
                due("arrive", x.arrive(1), 8);
                due("test", x.test(1), 5 + 16);
                departed += i == 7 && turn == 17 ? 0 : x.depart(1);
            }
        }
        dueTold("wagons that came", x, 10, 18 * 64);
        dueTold("wagons that departed", x, 9, departed);
        dueTold("trains that departed", x, 8, 18 * 8 - 1);
        dueStanding("the last numbers", x, 1, "1144A 1145A 1146A 1147A 1148A 1149A 1150A 1151A");
    }
}
