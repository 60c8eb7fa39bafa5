/** Promises 10 to 12: told, exchange and look. What they refuse is in RefusedTest too. */
public final class ToldTest {
    public static void main(String[] args) {
        toldBeforeARun();
        toldTellsTheLatestRun();
        toldForgetsTheRunBefore();
        toldOfARunWithoutACard();
        toldOfARunWithoutFindings();
        toldOfARunWithoutAnAnswerToCommand4();
        toldCountsCardsThatAnswered();
        toldCountsRecordsReadAsAWhole();
        toldCountsExchangesAbove127();
        exchangeBeforeARun();
        exchangeTellsEachKind();
        exchangeTellsTheFirstAndTheLast();
        exchangeTellsThoseTo127();
        exchangeForgetsTheRunBefore();
        lookTells();
        lookCountsRecords();
        lookCountsCommandsOnce();
        Check.done();
    }

    /** "-1 if there was none", and what stands for a run that came to nothing. */
    private static void toldBeforeARun() {
        Check.due("told", Scene.told(new TapTerminal()), "[-1, -1, 0, -1, 0, 0, 0, 0, 0, 0]");
        Check.due("told with a card", Scene.told(Scene.withGoodCard(16)), "[-1, -1, 0, -1, 0, 0, 0, 0, 0, 0]");
    }

    private static void toldTellsTheLatestRun() {
        TapTerminal t = Scene.withGoodCard(16);
        t.fault(4, 2);
        t.run(100, 8, 200);
        int mix = Scene.mixOf(Scene.KEY, 1, 1, 100, 8, 48);
        Check.due("told", Scene.told(t), "[1, 0, 48, 1, 1, " + mix + ", 9, 1, 1, 2]");
        t.card(3, 0, 7, 1, 3);
        t.field(3, true);
        t.fault(4, 0);
        t.run(50, 9, 301);
        mix = Scene.mixOf(Scene.KEY, 0, 2, 50, 9, 2);
        Check.due("told behind another card", Scene.told(t), "[0, 0, 2, 0, 2, " + mix + ", 13, 0, 2, 2]");
    }

    private static void toldForgetsTheRunBefore() {
        TapTerminal t = Scene.withGoodCard(16);
        t.run(100, 8, 200);
        t.field(0, false);
        t.run(100, 8, 200);
        Check.due("told", Scene.told(t), "[3, -1, 0, -1, 0, 0, 3, 3, 0, 0]");
    }

    /** "1: the CARD CHOSEN, -1 if none": put off, or lost before its APPLICATION is heard. */
    private static void toldOfARunWithoutACard() {
        TapTerminal t = Scene.withGoodCard(16);
        t.takes(251);
        t.run(50, 9, 200);
        Check.due("put off", Scene.told(t), "[3, -1, 0, -1, 0, 0, 8, 3, 1, 0]");
        t.takes(4);
        for (int n = 3; n <= 5; n++) {
            t.fault(n, 2);
        }
        t.run(50, 9, 200);
        Check.due("lost", Scene.told(t), "[4, -1, 0, -1, 0, 0, 6, 3, 1, 0]");
    }

    /** "2 is 0 if it did not come to that", and "3: the type asked for, -1 if none was". */
    private static void toldOfARunWithoutFindings() {
        TapTerminal t = Scene.withEmptyCard(16);
        t.run(100, 8, 65536);
        Check.due("told", Scene.told(t), "[5, 0, 0, -1, 0, 0, 5, 0, 1, 0]");
    }

    /** "4 ... 5 ... (0 if COMMAND 4 was not answered)": not even if a run before it was. */
    private static void toldOfARunWithoutAnAnswerToCommand4() {
        TapTerminal t = Scene.withGoodCard(16);
        t.run(100, 8, 200);
        for (int n = 7; n <= 9; n++) {
            t.fault(n, 2);
        }
        t.run(100, 8, 200);
        Check.due("told", Scene.told(t), "[4, 0, 48, 1, 0, 0, 10, 3, 1, 2]");
        Check.due("the card's counter", t.look(0, 2), 2);
    }

    /** Four CARDS can be SELECTED; one whose answer to SELECT is not heard does not count. */
    private static void toldCountsCardsThatAnswered() {
        TapTerminal t = new TapTerminal();
        Check.due("none", toldBehindRun(t, 8), 0);
        for (int c = 0; c <= 3; c++) {
            t.card(c, c, c, c, 3);
            t.field(c, true);
            Check.due("with card " + c, toldBehindRun(t, 8), c + 1);
        }
        for (int n = 5; n <= 7; n++) {
            t.fault(n, 2);
        }
        t.run(1, 1, 1);
        Check.due("lost at command 1", t.told(0), TapTerminal.LOST);
        Check.due("one answered before it was lost", t.told(8), 1);
        for (int n = 4; n <= 6; n++) {
            t.fault(n, 2);
        }
        Check.due("lost at select", toldBehindRun(t, 8), 0);
    }

    private static int toldBehindRun(TapTerminal t, int what) {
        t.run(1, 1, 1);
        return t.told(what);
    }

    /** "9: RECORDS read as a whole": 0 to 3 of them, empty ones too, and not the one that was lost in its midst. */
    private static void toldCountsRecordsReadAsAWhole() {
        Check.due("none", toldBehindRun(Scene.withEmptyCard(3), 9), 0);
        int[] two = {9, 0};
        int[] four = {9, 2, 9, 9};
        Check.due("one", toldBehindRun(Scene.withCard(3, two), 9), 1);
        Check.due("two, the first of them empty", toldBehindRun(Scene.withCard(3, new int[0], two), 9), 2);
        Check.due("three", toldBehindRun(Scene.withCard(3, two, two, two), 9), 3);
        TapTerminal t = Scene.withCard(3, two, four);
        for (int n = 8; n <= 10; n++) {
            t.fault(n, 1);
        }
        Check.due("the second one is lost in its midst", toldBehindRun(t, 9), 1);
        Check.due("the last sent was its ACK", t.exchange(10, 0), 6);
    }

    private static void toldCountsExchangesAbove127() {
        Check.due("127", toldBehindRun(Scene.withRunOf127(), 6), 127);
        Check.due("128", toldBehindRun(Scene.withRunOf128(), 6), 128);
        Check.due("129", toldBehindRun(Scene.withRunOf129(), 6), 129);
        TapTerminal t = Scene.withRunOf129();
        Check.due("without an answer", toldBehindRun(t, 7), 81);
    }

    private static void exchangeBeforeARun() {
        TapTerminal t = Scene.withGoodCard(16);
        for (int what = 0; what <= 2; what++) {
            Check.due("the first, " + what, t.exchange(0, what), TapTerminal.REFUSED);
            Check.due("the last, " + what, t.exchange(127, what), TapTerminal.REFUSED);
        }
    }

    private static void exchangeTellsEachKind() {
        TapTerminal t = Scene.withGoodCard(8);
        t.card(1, 91, 2, 1, 3);
        t.card(2, 200, 2, 1, 3);
        t.card(3, 80, 1, 1, 3);
        for (int c = 1; c < 4; c++) {
            t.field(c, true);
        }
        t.fault(5, 1);
        t.run(50, 9, 200);
        Check.due("trace", Scene.trace(t), "WAKE0 ASK0 ASK1 ASK5 SELECT80 I0- NAK0 I0 OFF80 ASK0 ASK1 ASK8 SELECT90"
                + " I0 I1 I0 ACK1 I0 ACK1 I0 I1");
        Check.due("exchanges", t.told(6), 21);
    }

    private static void exchangeTellsTheFirstAndTheLast() {
        TapTerminal t = Scene.withGoodCard(16);
        t.fault(7, 2);
        t.run(50, 9, 200);
        Check.due("the first", t.exchange(0, 0), 1);
        Check.due("one before the first", t.exchange(-1, 0), TapTerminal.REFUSED);
        Check.due("the one before the last", t.exchange(7, 0), 5);
        Check.due("its answer", t.exchange(7, 2), 0);
        Check.due("the last", t.exchange(8, 0), 7);
        Check.due("its answer", t.exchange(8, 2), 1);
        Check.due("one behind the last", t.exchange(9, 0), TapTerminal.REFUSED);
        Check.due("one behind the last, its answer", t.exchange(9, 2), TapTerminal.REFUSED);
    }

    /** "Of EXCHANGE n (0..127)": also of runs that have as many, or more. */
    private static void exchangeTellsThoseTo127() {
        TapTerminal t = Scene.withRunOf127();
        t.run(50, 9, 200);
        Check.due("126 of 127", t.exchange(126, 0), 5);
        Check.due("127 of 127", t.exchange(127, 0), TapTerminal.REFUSED);
        t = Scene.withRunOf128();
        t.run(50, 9, 200);
        Check.due("127 of 128", t.exchange(127, 0), 5);
        Check.due("127 of 128, its number", t.exchange(127, 1), 0);
        Check.due("127 of 128, its answer", t.exchange(127, 2), 1);
        t = Scene.withRunOf129();
        t.run(50, 9, 200);
        Check.due("the first of 129", t.exchange(0, 2), 0);
        Check.due("127 of 129", t.exchange(127, 1), 1);
        for (int what = 0; what <= 2; what++) {
            Check.due("128 of 129, " + what, t.exchange(128, what), TapTerminal.REFUSED);
        }
    }

    private static void exchangeForgetsTheRunBefore() {
        TapTerminal t = Scene.withGoodCard(16);
        t.run(50, 9, 200);
        t.field(0, false);
        t.run(50, 9, 200);
        Check.due("trace", Scene.trace(t), "WAKE0- WAKE0- WAKE0-");
        Check.due("one of the run before", t.exchange(3, 0), TapTerminal.REFUSED);
        Check.due("the last one of the run before", t.exchange(7, 0), TapTerminal.REFUSED);
    }

    private static void lookTells() {
        TapTerminal t = Scene.withGoodCard(16);
        Check.due("before a run", Scene.look(t, 0), "[1, 90, 0, 0, 0, 2]");
        t.run(50, 9, 200);
        t.run(50, 9, 200);
        Check.due("behind two runs", Scene.look(t, 0), "[1, 90, 2, 2, 10, 2]");
        t.field(0, false);
        Check.due("out of the field", Scene.look(t, 0), "[0, 90, 2, 2, 10, 2]");
    }

    /** "One more than the greatest number of one that is not empty, 0 if all are": each set of RECORDS. */
    private static void lookCountsRecords() {
        int[] due = {0, 1, 2, 2, 3, 3, 3, 3};
        for (int set = 0; set < 8; set++) {
            TapTerminal t = Scene.withEmptyCard(16);
            for (int r = 0; r <= 2; r++) {
                if ((set >> r & 1) == 1) {
                    t.write(0, r, 0);
                }
            }
            Check.due("records of set " + set, t.look(0, 5), due[set]);
        }
    }

    private static void lookCountsCommandsOnce() {
        TapTerminal t = Scene.withGoodCard(16);
        t.fault(3, 2);
        t.fault(4, 2);
        t.run(50, 9, 200);
        Check.due("a command whose answer is said again", t.look(0, 4), 5);
        t.fault(3, 1);
        t.fault(4, 1);
        t.fault(5, 1);
        t.run(50, 9, 200);
        Check.due("a command that is not heard", t.look(0, 4), 5);
    }
}
