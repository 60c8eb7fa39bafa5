/** Promise 9: how blocks carry commands, and how they are repaired. */
public final class BlocksTest {
    private static final String BEGIN = "WAKE0 ASK0 SELECT90 ";

    public static void main(String[] args) {
        sizesSplitRows();
        fullRecordsAreSplit();
        emptyRecordsAreOneBlock();
        unheardCommandIsSentAgain();
        unheardAnswerIsSaidAgain();
        unheardPartOfACommandIsSentAgain();
        unheardAckOfAPartIsSaidAgain();
        unheardAckIsSentAgain();
        unheardNakIsSentAgain();
        threeUnheardBlocksAreLost();
        threeUnheardAcksAreLost();
        answersInBetweenBeginTheCountAgain();
        halfACommandIsForgottenAtSelect();
        aCommandIsDoneOnce();
        exchangesAbove127HaveNoFaults();
        Check.done();
    }

    private static void dueTrace(String what, TapTerminal t, int ending, String trace) {
        Check.due(what, t.run(50, 9, 200), ending);
        Check.due(what, Scene.trace(t), BEGIN + trace);
    }

    private static TapTerminal withFaults(TapTerminal t, int from, int... kinds) {
        for (int i = 0; i < kinds.length; i++) {
            t.fault(from + i, kinds[i]);
        }
        return t;
    }

    private static void sizesSplitRows() {
        dueTrace("size 16", Scene.withGoodCard(16), 2, "I0 I1 I0 I1 I0");
        dueTrace("size 13", Scene.withGoodCard(13), 2, "I0 I1 I0 I1 I0");
        dueTrace("size 12", Scene.withGoodCard(12), 2, "I0 I1 I0 ACK1 I0 I1");
        dueTrace("size 11", Scene.withGoodCard(11), 2, "I0 I1 I0 ACK1 I0 I1");
        dueTrace("size 10", Scene.withGoodCard(10), 2, "I0 I1 I0 ACK1 I0 ACK1 I0 I1");
        dueTrace("size 7", Scene.withGoodCard(7), 2, "I0 I1 I0 ACK1 I0 ACK1 I0 I1");
        dueTrace("size 6", Scene.withGoodCard(6), 2, "I0 I1 I0 ACK1 ACK0 I1 ACK0 I1 I0 ACK1");
        dueTrace("size 5", Scene.withGoodCard(5), 2, "I0 I1 I0 ACK1 ACK0 I1 ACK0 ACK1 I0 I1 I0 ACK1");
        dueTrace("size 4", Scene.withGoodCard(4), 2, "I0 I1 I0 I1 ACK0 ACK1 ACK0 I1 ACK0 ACK1 I0 I1 I0 ACK1");
        dueTrace("size 3", Scene.withGoodCard(3), 2,
                "I0 I1 I0 I1 ACK0 ACK1 ACK0 ACK1 I0 ACK1 ACK0 ACK1 I0 I1 I0 I1 ACK0 ACK1");
    }

    private static void fullRecordsAreSplit() {
        int[] full = Scene.item(9, new int[22]);
        dueTrace("24 octets at 16", Scene.withCard(16, full), 5, "I0 I1 I0 ACK1");
        dueTrace("24 octets at 12", Scene.withCard(12, full), 5, "I0 I1 I0 ACK1");
        dueTrace("24 octets at 11", Scene.withCard(11, full), 5, "I0 I1 I0 ACK1 ACK0");
    }

    private static void emptyRecordsAreOneBlock() {
        TapTerminal t = Scene.withCard(16, new int[0], new int[0], Scene.item(9));
        dueTrace("two empty records", t, 5, "I0 I1 I0 I1 I0");
        Check.due("records read", t.told(9), 3);
        dueTrace("no records", Scene.withEmptyCard(16), 5, "I0 I1");
    }

    private static void unheardCommandIsSentAgain() {
        dueTrace("the first command", withFaults(Scene.withGoodCard(16), 3, 1), 2, "I0- NAK0 I0 I1 I0 I1 I0");
        dueTrace("the second command", withFaults(Scene.withGoodCard(16), 4, 1), 2, "I0 I1- NAK1 I1 I0 I1 I0");
    }

    private static void unheardAnswerIsSaidAgain() {
        dueTrace("the first answer", withFaults(Scene.withGoodCard(16), 3, 2), 2, "I0- NAK0 I1 I0 I1 I0");
        TapTerminal t = withFaults(Scene.withGoodCard(16), 7, 2);
        dueTrace("the last answer", t, 2, "I0 I1 I0 I1 I0- NAK0");
        Check.due("the counter said", t.told(4), 1);
    }

    private static void unheardPartOfACommandIsSentAgain() {
        dueTrace("the first part", withFaults(Scene.withGoodCard(8), 8, 1), 2,
                "I0 I1 I0 ACK1 I0 ACK1- ACK1 I0 I1");
        dueTrace("a part of command 4", withFaults(Scene.withGoodCard(8), 9, 1), 2,
                "I0 I1 I0 ACK1 I0 ACK1 I0- NAK0 I0 I1");
        dueTrace("the part behind it", withFaults(Scene.withGoodCard(8), 10, 1), 2,
                "I0 I1 I0 ACK1 I0 ACK1 I0 I1- NAK1 I1");
    }

    private static void unheardAckOfAPartIsSaidAgain() {
        dueTrace("the ack of a part", withFaults(Scene.withGoodCard(8), 9, 2), 2,
                "I0 I1 I0 ACK1 I0 ACK1 I0- NAK0 I1");
    }

    private static void unheardAckIsSentAgain() {
        dueTrace("not heard by the card", withFaults(Scene.withGoodCard(8), 6, 1, 1), 2,
                "I0 I1 I0 ACK1- ACK1- ACK1 I0 ACK1 I0 I1");
        TapTerminal t = withFaults(Scene.withGoodCard(8), 6, 2, 2);
        dueTrace("not heard by the terminal", t, 2, "I0 I1 I0 ACK1- ACK1- ACK1 I0 ACK1 I0 I1");
        Check.due("the record was whole", t.told(2), 0);
    }

    private static void unheardNakIsSentAgain() {
        dueTrace("command and nak", withFaults(Scene.withGoodCard(16), 3, 1, 1), 2, "I0- NAK0- NAK0 I0 I1 I0 I1 I0");
        dueTrace("command and the nak's answer", withFaults(Scene.withGoodCard(16), 3, 1, 2), 2,
                "I0- NAK0- NAK0 I0 I1 I0 I1 I0");
        dueTrace("answer and nak", withFaults(Scene.withGoodCard(16), 3, 2, 1), 2, "I0- NAK0- NAK0 I1 I0 I1 I0");
        dueTrace("answer twice", withFaults(Scene.withGoodCard(16), 3, 2, 2), 2, "I0- NAK0- NAK0 I1 I0 I1 I0");
    }

    private static void threeUnheardBlocksAreLost() {
        TapTerminal t = withFaults(Scene.withGoodCard(16), 3, 1, 1, 1);
        dueTrace("command 1", t, TapTerminal.LOST, "I0- NAK0- NAK0-");
        Check.due("told of command 1", Scene.told(t), "[4, -1, 0, -1, 0, 0, 6, 3, 1, 0]");
        t = withFaults(Scene.withGoodCard(16), 4, 2, 2, 2);
        dueTrace("command 2", t, TapTerminal.LOST, "I0 I1- NAK1- NAK1-");
        Check.due("told of command 2", Scene.told(t), "[4, 0, 0, -1, 0, 0, 7, 3, 1, 0]");
        t = withFaults(Scene.withGoodCard(16), 6, 2, 1, 2);
        dueTrace("command 3", t, TapTerminal.LOST, "I0 I1 I0 I1- NAK1- NAK1-");
        Check.due("told of command 3", Scene.told(t), "[4, 0, 0, -1, 0, 0, 9, 3, 1, 1]");
        t = withFaults(Scene.withGoodCard(16), 7, 1, 1, 2);
        dueTrace("command 4", t, TapTerminal.LOST, "I0 I1 I0 I1 I0- NAK0- NAK0-");
        Check.due("told of command 4", Scene.told(t), "[4, 0, 0, 2, 0, 0, 10, 3, 1, 2]");
        Check.due("the card did not hear it", Scene.look(t, 0), "[1, 90, 0, 0, 4, 2]");
        t = withFaults(Scene.withGoodCard(16), 7, 2, 1, 2);
        dueTrace("command 4's answer", t, TapTerminal.LOST, "I0 I1 I0 I1 I0- NAK0- NAK0-");
        Check.due("the card did it", Scene.look(t, 0), "[1, 90, 1, 1, 5, 2]");
        Check.due("its answer was not heard", Scene.told(t), "[4, 0, 0, 2, 0, 0, 10, 3, 1, 2]");
    }

    private static void threeUnheardAcksAreLost() {
        TapTerminal t = withFaults(Scene.withGoodCard(8), 6, 1, 2, 1);
        dueTrace("a record's second block", t, TapTerminal.LOST, "I0 I1 I0 ACK1- ACK1- ACK1-");
        Check.due("no record was whole", t.told(9), 0);
        t = withFaults(Scene.withGoodCard(6), 12, 2, 2, 2);
        dueTrace("the second block of what it says", t, TapTerminal.LOST,
                "I0 I1 I0 ACK1 ACK0 I1 ACK0 I1 I0 ACK1- ACK1- ACK1-");
        Check.due("half of it is no answer", Scene.told(t), "[4, 0, 0, 2, 0, 0, 15, 3, 1, 2]");
    }

    private static void answersInBetweenBeginTheCountAgain() {
        dueTrace("two and two and two", withFaults(Scene.withGoodCard(16), 3, 1, 1, 0, 1, 2, 0, 2, 2, 0), 2,
                "I0- NAK0- NAK0 I0- NAK0- NAK0 I0- NAK0- NAK0 I1 I0 I1 I0");
    }

    private static void halfACommandIsForgottenAtSelect() {
        TapTerminal t = withFaults(Scene.withGoodCard(4), 15, 1, 1, 1);
        dueTrace("lost in the midst of command 4", t, TapTerminal.LOST,
                "I0 I1 I0 I1 ACK0 ACK1 ACK0 I1 ACK0 ACK1 I0 I1 I0- NAK0- NAK0-");
        withFaults(t, 15, 0, 0, 0);
        dueTrace("the run behind it", t, 2, "I0 I1 I0 I1 ACK0 ACK1 ACK0 I1 ACK0 ACK1 I0 I1 I0 ACK1");
        Check.due("the counter said", t.told(4), 1);
        Check.due("the mix said", t.told(5), Scene.mixOf(Scene.KEY, 2, 1, 50, 9, 0));
    }

    private static void aCommandIsDoneOnce() {
        TapTerminal t = withFaults(Scene.withGoodCard(16), 3, 2, 0, 2, 0, 2, 0, 2, 0, 2, 2, 0);
        dueTrace("no answer is heard at first", t, 2, "I0- NAK0 I1- NAK1 I0- NAK0 I1- NAK1 I0- NAK0- NAK0");
        Check.due("the card", Scene.look(t, 0), "[1, 90, 1, 1, 5, 2]");
    }

    private static void exchangesAbove127HaveNoFaults() {
        TapTerminal t = Scene.withGoodCard(16);
        for (int n = 3; n < 128; n++) {
            t.fault(n, n % 3 == 2 ? 0 : 1);
        }
        Check.due("run", t.run(50, 9, 200), TapTerminal.APPROVE);
        Check.due("exchanges", t.told(6), 134);
        Check.due("without an answer", t.told(7), 84);
        Check.due("the last one noted", t.exchange(127, 0), 7);
        Check.due("the last one noted had no answer", t.exchange(127, 2), 0);
        Check.due("one above 127", t.exchange(128, 0), -1);
        Check.due("commands", t.look(0, 4), 5);
    }
}
