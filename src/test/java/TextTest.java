/** THE TEXT: its bytes, what it can be read as, and the first fault in it. */
public final class TextTest extends Edges {
    private static final String DIGITS = "12345678", LETTERS = "ABCDEF", KINDS = "fx", BLANK = " ";

    private TextTest() {
    }

    public static void main(String[] args) {
        atMost60Bytes();
        bytesFrom32To126();
        emptyAtFirst();
        wipingAtTheEnds();
        wipedBytesAreGone();
        bytesThatCanBegin();
        bytesBehindADigit();
        bytesBehindALetter();
        bytesBehindAKind();
        bytesOfAListOfTrains();
        noWordAtAll();
        blanksAsOneLikes();
        oneIfItIsNotTold();
        kindForAllOfTheWagons();
        endBehindADigit();
        moreThan8Wagons();
        moreThan10Trains();
        readFromLeftToRight();
        textsOf60Bytes();
        textStays();
        latestFault();
        faultIsAskedInItsRange();
        C.close();
    }

    private static void atMost60Bytes() {
        ShuntYard x = new ShuntYard();
        for (int length = 1; length <= 60; length++) {
            due("write", x.write('A'), length);
            dueTold("written", x, 13, length);
        }
        due("write of a 61st", x.write('A'), FULL);
        due("write of a 61st again", x.write('A'), FULL);
        dueTold("sixty stay", x, 13, 60);
        dueEdge("wipe", x.wipe(), 60, x.write(31), BAD);
        due("the first one again", x.write('A'), 1);
    }

    private static void bytesFrom32To126() {
        for (int code = 32; code <= 126; code++) {
            due("write(" + code + ")", new ShuntYard().write(code), 1);
        }
        ShuntYard x = new ShuntYard();
        dueEdge("the least byte", x.write(32), 1, x.write(31), BAD);
        dueEdge("the greatest byte", x.write(126), 2, x.write(127), BAD);
        for (int wrong : new int[] {0, -1, 10, 128, 255, 256 + 65, -191, LEAST_INT, GREATEST_INT}) {
            due("write(" + wrong + ")", x.write(wrong), BAD);
        }
        dueTold("two were written", x, 13, 2);
    }

    private static void emptyAtFirst() {
        ShuntYard x = new ShuntYard();
        dueTold("new", x, 13, 0);
        due("read as wagons", x.arrive(0), 0);
        due("read as trains", x.list(), 0);
        due("no fault", x.fault(0), NONE);
        due("wipe", x.wipe(), 0);
    }

    private static void wipingAtTheEnds() {
        ShuntYard x = new ShuntYard();
        due("an empty one", x.wipe(), 0);
        x.write('A');
        due("one byte", x.wipe(), 1);
        dueTold("wiped", x, 13, 0);
        due("wiped already", x.wipe(), 0);
        dueTold("no change", x, 14, 0);
    }

    private static void wipedBytesAreGone() {
        ShuntYard x = new ShuntYard();
        put(x, "8A ?");
        put(x, "B");
        due("wagons", x.arrive(0), 1);
        dueStanding("the new text", x, 0, "0B");
        due("trains", x.list(), 1);
    }

    /** Each byte behind a beginning: what can stand there is told, all others are faults there. */
    private static void dueBytesBehind(String begin, String can) {
        for (int code = 32; code <= 126; code++) {
            char c = (char) code;
            ShuntYard x = new ShuntYard();
            x.begin(2, 8);
            int got = arrive(x, 0, begin + c);
            String name = "arrive of '" + begin + c + "'";
            if (can.indexOf(c) < 0) {
                dueFound(name, x, got, 1, begin.length());
            } else if (DIGITS.indexOf(c) >= 0) {
                dueFound(name, x, got, 2, begin.length() + 1);
            } else {
                C.dueTrue(name + " is no fault", got >= 0);
                due(name + ", fault(0)", x.fault(0), NONE);
            }
        }
    }

    private static void dueFound(String name, ShuntYard x, int got, int kind, int place) {
        due(name, got, STATE);
        due(name + ", fault(0)", x.fault(0), kind);
        due(name + ", fault(1)", x.fault(1), place);
        dueTold(name + " took none in", x, 3, 0);
        dueTold(name + " made no list", x, 4, 0);
    }

    private static void dueFault(String text, int kind, int place) {
        ShuntYard x = new ShuntYard();
        x.begin(2, 8);
        dueFound("arrive of '" + text + "'", x, arrive(x, 1, text), kind, place);
    }

    private static void dueListFault(String text, int kind, int place) {
        ShuntYard x = new ShuntYard();
        dueFound("list of '" + text + "'", x, list(x, text), kind, place);
    }

    private static void dueWagons(String text, String want) {
        ShuntYard x = new ShuntYard();
        x.begin(2, 8);
        due("arrive of '" + text + "'", arrive(x, 1, text), want.isEmpty() ? 0 : want.split(" ").length);
        dueStanding("arrive of '" + text + "'", x, 1, want);
        due("no fault in '" + text + "'", x.fault(0), NONE);
        due("no place of a fault in '" + text + "'", x.fault(1), NONE);
    }

    private static void bytesThatCanBegin() {
        for (String begin : new String[] {"", " ", "   ", "A ", "2A ", "Af ", "2Ax  "}) {
            dueBytesBehind(begin, BLANK + DIGITS + LETTERS);
        }
    }

    private static void bytesBehindADigit() {
        for (String begin : new String[] {"1", "2", "8", " 3", "A 4", "Af 5"}) {
            dueBytesBehind(begin, LETTERS);
        }
    }

    private static void bytesBehindALetter() {
        for (String begin : new String[] {"A", "F", "2B", "8C", "A D", "A 3E"}) {
            dueBytesBehind(begin, BLANK + KINDS);
        }
    }

    private static void bytesBehindAKind() {
        for (String begin : new String[] {"Af", "Ax", "8Ff", "A 3Bx"}) {
            dueBytesBehind(begin, BLANK);
        }
    }

    private static void bytesOfAListOfTrains() {
        for (String begin : new String[] {"", " ", "A", "FE", "A ", "ABCDEFABC"}) {
            for (int code = 32; code <= 126; code++) {
                char c = (char) code;
                ShuntYard x = new ShuntYard();
                int got = list(x, begin + c);
                String name = "list of '" + begin + c + "'";
                if ((BLANK + LETTERS).indexOf(c) < 0) {
                    dueFound(name, x, got, 1, begin.length());
                } else {
                    due(name, got, (begin + c).replace(" ", "").length());
                    due(name + ", the train of a letter", c == ' ' ? 0 : x.train(got - 1), c == ' ' ? 0 : c - 'A');
                    due(name + ", fault(0)", x.fault(0), NONE);
                }
            }
        }
    }

    private static void noWordAtAll() {
        dueWagons("", "");
        dueWagons(" ", "");
        dueWagons(times(60, " "), "");
        due("list of no train", list(new ShuntYard(), ""), 0);
        due("list of a blank", list(new ShuntYard(), " "), 0);
        due("list of blanks", list(new ShuntYard(), times(60, " ")), 0);
        ShuntYard x = new ShuntYard();
        list(x, "AB");
        due("an empty list for another", list(x, ""), 0);
        due("no train", x.train(0), NONE);
        dueTold("both are changes", x, 14, 2);
    }

    private static void blanksAsOneLikes() {
        dueWagons(" A", "0A");
        dueWagons("A ", "0A");
        dueWagons("A B", "0A 1B");
        dueWagons("   A    B   ", "0A 1B");
        dueWagons(" 2Af  Bf ", "0Af 1Af 2Bf");
        dueFault("AB", 1, 1);
        dueFault("Af2B", 1, 2);
        dueFault("2 A", 1, 1);
        dueFault("A f", 1, 2);
        ShuntYard x = new ShuntYard();
        due("list with blanks", list(x, "  A  BC D "), 4);
        for (int k = 0; k < 4; k++) {
            due("train(" + k + ")", x.train(k), k);
        }
    }

    private static void oneIfItIsNotTold() {
        dueWagons("A", "0A");
        dueWagons("1A", "0A");
        dueWagons("2A B", "0A 1A 2B");
        dueWagons("8A", "0A 1A 2A 3A 4A 5A 6A 7A");
        dueFault("0A", 1, 0);
        dueFault("9A", 1, 0);
        dueFault("11A", 1, 1);
    }

    private static void kindForAllOfTheWagons() {
        dueWagons("3Af", "0Af 1Af 2Af");
        dueWagons("3Fx", "0Fx 1Fx 2Fx");
        dueWagons("2A 2Bf A", "0A 1A 2Bf 3Bf 4A");
        dueWagons("8Cx", "0Cx 1Cx 2Cx 3Cx 4Cx 5Cx 6Cx 7Cx");
    }

    private static void endBehindADigit() {
        for (int digit = 1; digit <= 8; digit++) {
            dueFault("" + digit, 2, 1);
            dueFault("Af " + digit, 2, 4);
        }
        dueFault("0", 1, 0);
        dueFault("9", 1, 0);
        dueFault("8A 1", 2, 4);
        dueListFault("1", 1, 0);
        dueListFault("A1", 1, 1);
    }

    private static void moreThan8Wagons() {
        for (int first = 1; first <= 8; first++) {
            String begin = first + "A ";
            if (first < 8) {
                due("eight", arrive(eightPlaces(), 0, begin + (8 - first) + "B"), 8);
                due("eight by letters alone", arrive(eightPlaces(), 0, begin + times(8 - first, "B ")), 8);
            }
            dueFault(begin + (9 - first) + "B", 3, 4);
            dueFault(begin + times(8 - first, "B ") + "C", 3, 3 + 2 * (8 - first));
            dueFault(begin + "8Bx", 3, 4);
        }
        dueFault("A B C D E F A B C", 3, 16);
        dueFault("8A   Bf", 3, 5);
        dueFault("8A 1B", 3, 4);
        due("more than C, but not more than 8", arrive(new ShuntYard(), 0, "8A"), FULL);
        due("a fault before more than C", arrive(new ShuntYard(), 0, "8A B"), STATE);
    }

    private static ShuntYard eightPlaces() {
        ShuntYard x = new ShuntYard();
        x.begin(2, 8);
        return x;
    }

    private static void moreThan10Trains() {
        due("ten", list(new ShuntYard(), "FEDCBAFEDC"), 10);
        due("ten and blanks", list(new ShuntYard(), " FEDCB  AFEDC "), 10);
        for (char c : LETTERS.toCharArray()) {
            dueListFault("FEDCBAFEDC" + c, 4, 10);
        }
        dueListFault("  FEDCB AFEDC  A", 4, 15);
        dueListFault(times(60, "A"), 4, 10);
        dueListFault("FEDCBAFEDC?", 1, 10);
    }

    private static void readFromLeftToRight() {
        dueFault("? 8A B", 1, 0);
        dueFault("8A B ?", 3, 3);
        dueFault("8A ? B", 1, 3);
        dueFault("8A 1?", 1, 4);
        dueFault("A ? ! 3", 1, 2);
        dueFault("AB 3", 1, 1);
        dueFault("8A B 3", 3, 3);
        dueListFault("A?!", 1, 1);
        dueListFault("ABCDEFABCDE?", 4, 10);
        dueListFault("ABCDE?FABCDE", 1, 5);
    }

    private static void textsOf60Bytes() {
        String blanks = times(59, " ");
        dueWagons(blanks + "F", "0F");
        dueWagons("F" + blanks, "0F");
        dueWagons(times(56, " ") + "2Af ", "0Af 1Af");
        dueFault(blanks + "G", 1, 59);
        dueFault(blanks + "8", 2, 60);
        dueFault("8A" + times(57, " ") + "A", 3, 59);
        due("list", list(new ShuntYard(), blanks + "F"), 1);
        dueListFault(blanks + "G", 1, 59);
        dueListFault("ABCDEFABCD" + times(49, " ") + "A", 4, 59);
    }

    private static void textStays() {
        ShuntYard x = new ShuntYard();
        put(x, "A B");
        x.arrive(0);
        dueTold("behind arrive", x, 13, 3);
        x.list();
        dueTold("behind list", x, 13, 3);
        due("again", x.arrive(1), 2);
        due("appended", x.write('x'), 4);
        due("with what was appended", x.arrive(2), 2);
        dueStanding("with what was appended", x, 2, "4A 5Bx");
        put(x, "A ?");
        x.arrive(0);
        x.list();
        dueTold("behind a fault", x, 13, 3);
        x.begin(2, 2);
        dueTold("behind begin", x, 13, 3);
        x.undo();
        dueTold("behind undo", x, 13, 3);
    }

    private static void latestFault() {
        ShuntYard x = new ShuntYard();
        due("none yet", x.fault(0), NONE);
        due("none yet", x.fault(1), NONE);
        put(x, " G");
        due("writing finds none", x.fault(0), NONE);
        x.arrive(0);
        dueFaultIs("by arrive", x, 1, 1);
        put(x, "ABCDEFABCDE");
        x.list();
        dueFaultIs("by list", x, 4, 10);
        arrive(x, 0, "8A B");
        dueFaultIs("by arrive again", x, 3, 3);
        arrive(x, 0, "2");
        dueFaultIs("the end", x, 2, 1);
        x.wipe();
        dueFaultIs("wiping leaves it", x, 2, 1);
        x.arrive(0);
        x.list();
        dueFaultIs("a text without a fault leaves it", x, 2, 1);
        x.pause(1);
        x.undo();
        dueFaultIs("undo leaves it", x, 2, 1);
        x.begin(2, 2);
        dueFaultIs("begin leaves it", x, 2, 1);
        x.keep(0);
        x.back(0);
        dueFaultIs("back leaves it", x, 2, 1);
    }

    private static void dueFaultIs(String when, ShuntYard x, int kind, int place) {
        due(when + ": fault(0)", x.fault(0), kind);
        due(when + ": fault(1)", x.fault(1), place);
    }

    private static void faultIsAskedInItsRange() {
        ShuntYard x = new ShuntYard();
        arrive(x, 0, "A 7");
        dueEdge("the kind", x.fault(0), 2, x.fault(-1), BAD);
        dueEdge("the place", x.fault(1), 3, x.fault(2), BAD);
        due("far below", x.fault(LEAST_INT), BAD);
        due("far above", x.fault(GREATEST_INT), BAD);
    }
}
