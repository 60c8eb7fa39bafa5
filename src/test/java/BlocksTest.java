/** Promise 9: how blocks carry commands, and how they are repaired. */
public final class BlocksTest {
    private static final String BEGIN = "WAKE0 ASK0 SELECT90 ";

    public static void main(String[] args) {
        sizesSplitRows();
        everySizeSplitsEveryRow();
        everySizeCarriesWhatIsSent();
        fullRecordsAreSplit();
        emptyRecordsAreOneBlock();
        unheardCommandIsSentAgain();
        unheardAnswerIsSaidAgain();
        unheardPartOfACommandIsSentAgain();
        unheardAckOfAPartIsSaidAgain();
        unheardAckIsSentAgain();
        unheardNakIsSentAgain();
        threeUnheardBlocksAreLost();
        threeUnheardAcksAreLost();
        answersInBetweenBeginTheCountAgain();
        halfACommandIsForgottenAtSelect();
        aCommandIsDoneOnce();
        exchangesAbove127HaveNoFaults();
        theFaultOf127IsTheLast();
        oneFaultAnywhereIsRepaired();
        twoFaultsInARowAnywhereAreRepaired();
        threeFaultsInARowAnywhereEndTheRun();
        Check.done();
    }

    private static void dueTrace(String what, TapTerminal t, int ending, String trace) {
        Check.due(what, t.run(50, 9, 200), ending);
        Check.due(what, Scene.trace(t), BEGIN + trace);
    }

    private static TapTerminal withFaults(TapTerminal t, int from, int... kinds) {
        for (int i = 0; i < kinds.length; i++) {
            t.fault(from + i, kinds[i]);
        }
        return t;
    }

    private static void sizesSplitRows() {
        dueTrace("size 16", Scene.withGoodCard(16), 2, "I0 I1 I0 I1 I0");
        dueTrace("size 13", Scene.withGoodCard(13), 2, "I0 I1 I0 I1 I0");
        dueTrace("size 12", Scene.withGoodCard(12), 2, "I0 I1 I0 ACK1 I0 I1");
        dueTrace("size 11", Scene.withGoodCard(11), 2, "I0 I1 I0 ACK1 I0 I1");
        dueTrace("size 10", Scene.withGoodCard(10), 2, "I0 I1 I0 ACK1 I0 ACK1 I0 I1");
        dueTrace("size 7", Scene.withGoodCard(7), 2, "I0 I1 I0 ACK1 I0 ACK1 I0 I1");
        dueTrace("size 6", Scene.withGoodCard(6), 2, "I0 I1 I0 ACK1 ACK0 I1 ACK0 I1 I0 ACK1");
        dueTrace("size 5", Scene.withGoodCard(5), 2, "I0 I1 I0 ACK1 ACK0 I1 ACK0 ACK1 I0 I1 I0 ACK1");
        dueTrace("size 4", Scene.withGoodCard(4), 2, "I0 I1 I0 I1 ACK0 ACK1 ACK0 I1 ACK0 ACK1 I0 I1 I0 ACK1");
        dueTrace("size 3", Scene.withGoodCard(3), 2,
                "I0 I1 I0 I1 ACK0 ACK1 ACK0 ACK1 I0 ACK1 ACK0 ACK1 I0 I1 I0 I1 ACK0 ACK1");
    }

    /** "The last one shorter, or empty if the row is": rows of 0 to 24 OCTETS in BLOCKS of 3 to 16. */
    private static void everySizeSplitsEveryRow() {
        for (int size = 3; size <= 16; size++) {
            for (int length = 0; length <= 24; length++) {
                TapTerminal t = Scene.withCard(size, new int[length], new int[] {9, 0});
                t.run(50, 9, 200);
                String command2 = "I".repeat(blocks(5, size));
                String answers = "I" + "A".repeat(blocks(length, size) - 1);
                Check.due(length + " octets at size " + size, Scene.trace(t), BEGIN + numbered("I" + command2 + answers + "I"));
            }
        }
    }

    private static int blocks(int length, int size) {
        return length == 0 ? 1 : (length + size - 1) / size;
    }

    /** Each letter stands for an I or an ACK; their numbers turn with every answer. */
    private static String numbered(String letters) {
        StringBuilder text = new StringBuilder();
        for (int i = 0; i < letters.length(); i++) {
            text.append(i == 0 ? "" : " ").append(letters.charAt(i) == 'I' ? "I" : "ACK").append(i % 2);
        }
        return text.toString();
    }

    private static void everySizeCarriesWhatIsSent() {
        for (int size = 3; size <= 16; size++) {
            TapTerminal t = Scene.withGoodCard(size);
            t.run(0x12345670, 0x7A8B9CAD, 200);
            int mix = Scene.mixOf(Scene.KEY, 1, 1, 0x12345670, 0x7A8B9CAD, 16);
            Check.due("findings at size " + size, t.told(2), 16);
            Check.due("the mix said at size " + size, t.told(5), mix);
        }
    }

    private static void fullRecordsAreSplit() {
        int[] full = Scene.item(9, new int[22]);
        dueTrace("24 octets at 16", Scene.withCard(16, full), 5, "I0 I1 I0 ACK1");
        dueTrace("24 octets at 12", Scene.withCard(12, full), 5, "I0 I1 I0 ACK1");
        dueTrace("24 octets at 11", Scene.withCard(11, full), 5, "I0 I1 I0 ACK1 ACK0");
    }

    private static void emptyRecordsAreOneBlock() {
        TapTerminal t = Scene.withCard(16, new int[0], new int[0], Scene.item(9));
        dueTrace("two empty records", t, 5, "I0 I1 I0 I1 I0");
        Check.due("records read", t.told(9), 3);
        dueTrace("no records", Scene.withEmptyCard(16), 5, "I0 I1");
    }

    private static void unheardCommandIsSentAgain() {
        dueTrace("the first command", withFaults(Scene.withGoodCard(16), 3, 1), 2, "I0- NAK0 I0 I1 I0 I1 I0");
        dueTrace("the second command", withFaults(Scene.withGoodCard(16), 4, 1), 2, "I0 I1- NAK1 I1 I0 I1 I0");
    }

    private static void unheardAnswerIsSaidAgain() {
        dueTrace("the first answer", withFaults(Scene.withGoodCard(16), 3, 2), 2, "I0- NAK0 I1 I0 I1 I0");
        TapTerminal t = withFaults(Scene.withGoodCard(16), 7, 2);
        dueTrace("the last answer", t, 2, "I0 I1 I0 I1 I0- NAK0");
        Check.due("the counter said", t.told(4), 1);
    }

    private static void unheardPartOfACommandIsSentAgain() {
        dueTrace("the first part", withFaults(Scene.withGoodCard(8), 8, 1), 2,
                "I0 I1 I0 ACK1 I0 ACK1- ACK1 I0 I1");
        dueTrace("a part of command 4", withFaults(Scene.withGoodCard(8), 9, 1), 2,
                "I0 I1 I0 ACK1 I0 ACK1 I0- NAK0 I0 I1");
        dueTrace("the part behind it", withFaults(Scene.withGoodCard(8), 10, 1), 2,
                "I0 I1 I0 ACK1 I0 ACK1 I0 I1- NAK1 I1");
    }

    private static void unheardAckOfAPartIsSaidAgain() {
        dueTrace("the ack of a part", withFaults(Scene.withGoodCard(8), 9, 2), 2,
                "I0 I1 I0 ACK1 I0 ACK1 I0- NAK0 I1");
    }

    private static void unheardAckIsSentAgain() {
        dueTrace("not heard by the card", withFaults(Scene.withGoodCard(8), 6, 1, 1), 2,
                "I0 I1 I0 ACK1- ACK1- ACK1 I0 ACK1 I0 I1");
        TapTerminal t = withFaults(Scene.withGoodCard(8), 6, 2, 2);
        dueTrace("not heard by the terminal", t, 2, "I0 I1 I0 ACK1- ACK1- ACK1 I0 ACK1 I0 I1");
        Check.due("the record was whole", t.told(2), 0);
    }

    private static void unheardNakIsSentAgain() {
        dueTrace("command and nak", withFaults(Scene.withGoodCard(16), 3, 1, 1), 2, "I0- NAK0- NAK0 I0 I1 I0 I1 I0");
        dueTrace("command and the nak's answer", withFaults(Scene.withGoodCard(16), 3, 1, 2), 2,
                "I0- NAK0- NAK0 I0 I1 I0 I1 I0");
        dueTrace("answer and nak", withFaults(Scene.withGoodCard(16), 3, 2, 1), 2, "I0- NAK0- NAK0 I1 I0 I1 I0");
        dueTrace("answer twice", withFaults(Scene.withGoodCard(16), 3, 2, 2), 2, "I0- NAK0- NAK0 I1 I0 I1 I0");
    }

    private static void threeUnheardBlocksAreLost() {
        TapTerminal t = withFaults(Scene.withGoodCard(16), 3, 1, 1, 1);
        dueTrace("command 1", t, TapTerminal.LOST, "I0- NAK0- NAK0-");
        Check.due("told of command 1", Scene.told(t), "[4, -1, 0, -1, 0, 0, 6, 3, 1, 0]");
        t = withFaults(Scene.withGoodCard(16), 4, 2, 2, 2);
        dueTrace("command 2", t, TapTerminal.LOST, "I0 I1- NAK1- NAK1-");
        Check.due("told of command 2", Scene.told(t), "[4, 0, 0, -1, 0, 0, 7, 3, 1, 0]");
        t = withFaults(Scene.withGoodCard(16), 6, 2, 1, 2);
        dueTrace("command 3", t, TapTerminal.LOST, "I0 I1 I0 I1- NAK1- NAK1-");
        Check.due("told of command 3", Scene.told(t), "[4, 0, 0, -1, 0, 0, 9, 3, 1, 1]");
        t = withFaults(Scene.withGoodCard(16), 7, 1, 1, 2);
        dueTrace("command 4", t, TapTerminal.LOST, "I0 I1 I0 I1 I0- NAK0- NAK0-");
        Check.due("told of command 4", Scene.told(t), "[4, 0, 0, 2, 0, 0, 10, 3, 1, 2]");
        Check.due("the card did not hear it", Scene.look(t, 0), "[1, 90, 0, 0, 4, 2]");
        t = withFaults(Scene.withGoodCard(16), 7, 2, 1, 2);
        dueTrace("command 4's answer", t, TapTerminal.LOST, "I0 I1 I0 I1 I0- NAK0- NAK0-");
        Check.due("the card did it", Scene.look(t, 0), "[1, 90, 1, 1, 5, 2]");
        Check.due("its answer was not heard", Scene.told(t), "[4, 0, 0, 2, 0, 0, 10, 3, 1, 2]");
    }

    private static void threeUnheardAcksAreLost() {
        TapTerminal t = withFaults(Scene.withGoodCard(8), 6, 1, 2, 1);
        dueTrace("a record's second block", t, TapTerminal.LOST, "I0 I1 I0 ACK1- ACK1- ACK1-");
        Check.due("no record was whole", t.told(9), 0);
        t = withFaults(Scene.withGoodCard(6), 12, 2, 2, 2);
        dueTrace("the second block of what it says", t, TapTerminal.LOST,
                "I0 I1 I0 ACK1 ACK0 I1 ACK0 I1 I0 ACK1- ACK1- ACK1-");
        Check.due("half of it is no answer", Scene.told(t), "[4, 0, 0, 2, 0, 0, 15, 3, 1, 2]");
    }

    private static void answersInBetweenBeginTheCountAgain() {
        dueTrace("two and two and two", withFaults(Scene.withGoodCard(16), 3, 1, 1, 0, 1, 2, 0, 2, 2, 0), 2,
                "I0- NAK0- NAK0 I0- NAK0- NAK0 I0- NAK0- NAK0 I1 I0 I1 I0");
    }

    private static void halfACommandIsForgottenAtSelect() {
        TapTerminal t = withFaults(Scene.withGoodCard(4), 15, 1, 1, 1);
        dueTrace("lost in the midst of command 4", t, TapTerminal.LOST,
                "I0 I1 I0 I1 ACK0 ACK1 ACK0 I1 ACK0 ACK1 I0 I1 I0- NAK0- NAK0-");
        withFaults(t, 15, 0, 0, 0);
        dueTrace("the run behind it", t, 2, "I0 I1 I0 I1 ACK0 ACK1 ACK0 I1 ACK0 ACK1 I0 I1 I0 ACK1");
        Check.due("the counter said", t.told(4), 1);
        Check.due("the mix said", t.told(5), Scene.mixOf(Scene.KEY, 2, 1, 50, 9, 0));
    }

    private static void aCommandIsDoneOnce() {
        TapTerminal t = withFaults(Scene.withGoodCard(16), 3, 2, 0, 2, 0, 2, 0, 2, 0, 2, 2, 0);
        dueTrace("no answer is heard at first", t, 2, "I0- NAK0 I1- NAK1 I0- NAK0 I1- NAK1 I0- NAK0- NAK0");
        Check.due("the card", Scene.look(t, 0), "[1, 90, 1, 1, 5, 2]");
    }

    private static void exchangesAbove127HaveNoFaults() {
        TapTerminal t = Scene.withGoodCard(16);
        for (int n = 3; n < 128; n++) {
            t.fault(n, n % 3 == 2 ? 0 : 1);
        }
        Check.due("run", t.run(50, 9, 200), TapTerminal.APPROVE);
        Check.due("exchanges", t.told(6), 134);
        Check.due("without an answer", t.told(7), 84);
        Check.due("the last one noted", t.exchange(127, 0), 7);
        Check.due("the last one noted had no answer", t.exchange(127, 2), 0);
        Check.due("one above 127", t.exchange(128, 0), -1);
        Check.due("commands", t.look(0, 4), 5);
    }

    /** "(Those above 127 have none.)": 126 and 127 are not answered, and the third in a row is. */
    private static void theFaultOf127IsTheLast() {
        TapTerminal t = Scene.withRunOf128();
        withFaults(t, 125, 0, 1, 2);
        Check.due("run", t.run(50, 9, 200), TapTerminal.APPROVE);
        Check.due("126", t.exchange(126, 2), 0);
        Check.due("127", t.exchange(127, 2), 0);
        withFaults(t, 125, 1, 1, 2);
        Check.due("three to 127", t.run(50, 9, 200), TapTerminal.LOST);
        Check.due("exchanges", t.told(6), 128);
    }

    /** CARD 0 is chosen behind CARD 1, which is put off, so that there is every kind of EXCHANGE. */
    private static TapTerminal withEveryKind(int size) {
        TapTerminal t = Scene.withGoodCard(size);
        t.card(1, 89, 1, 1, size);
        t.field(1, true);
        return t;
    }

    private static int exchangesWithoutFaults(int size) {
        TapTerminal t = withEveryKind(size);
        t.run(50, 9, 200);
        return t.told(6);
    }

    private static void dueRepaired(String what, TapTerminal t, int silent) {
        Check.due(what, t.run(50, 9, 200), TapTerminal.APPROVE);
        Check.due(what + ", findings", t.told(2), 0);
        Check.due(what + ", the counter said", t.told(4), 1);
        Check.due(what + ", the mix said", t.told(5), Scene.mixOf(Scene.KEY, 2, 1, 50, 9, 0));
        Check.due(what + ", without an answer", t.told(7), silent);
        Check.due(what + ", the card", Scene.look(t, 0), "[1, 90, 1, 1, 5, 2]");
        Check.due(what + ", the card put off", Scene.look(t, 1), "[1, 89, 0, 0, 1, 0]");
    }

    /** Nothing is left of a run that was lost but the COUNTER, if the CARD had heard COMMAND 4. */
    private static void dueWholeRun(String what, TapTerminal t) {
        int counter = t.look(0, 2) + 1;
        Check.due(what, t.run(50, 9, 200), TapTerminal.APPROVE);
        Check.due(what + ", findings", t.told(2), 0);
        Check.due(what + ", the counter said", t.told(4), counter);
        Check.due(what + ", the mix said", t.told(5), Scene.mixOf(Scene.KEY, 2, counter, 50, 9, 0));
        Check.due(what + ", without an answer", t.told(7), 0);
    }

    private static void oneFaultAnywhereIsRepaired() {
        for (int size = 3; size <= 16; size++) {
            int exchanges = exchangesWithoutFaults(size);
            for (int n = 0; n < exchanges; n++) {
                for (int kind = 1; kind <= 2; kind++) {
                    String what = "size " + size + ", fault " + kind + " at " + n;
                    dueRepaired(what, withFaults(withEveryKind(size), n, kind), 1);
                }
            }
        }
    }

    private static void twoFaultsInARowAnywhereAreRepaired() {
        for (int size = 3; size <= 16; size++) {
            int exchanges = exchangesWithoutFaults(size);
            for (int n = 0; n < exchanges; n++) {
                for (int kinds = 0; kinds < 4; kinds++) {
                    int first = 1 + kinds / 2;
                    int second = 1 + kinds % 2;
                    String what = "size " + size + ", faults " + first + " and " + second + " from " + n;
                    dueRepaired(what, withFaults(withEveryKind(size), n, first, second), 2);
                }
            }
        }
    }

    /** WAKE, and ASK without a PREFIX, end with NO CARD, all others LOST. */
    private static void threeFaultsInARowAnywhereEndTheRun() {
        for (int size = 3; size <= 16; size++) {
            int exchanges = exchangesWithoutFaults(size);
            for (int n = 0; n < exchanges; n++) {
                for (int kinds = 0; kinds < 8; kinds++) {
                    TapTerminal t = withEveryKind(size);
                    withFaults(t, n, 1 + kinds / 4, 1 + kinds / 2 % 2, 1 + kinds % 2);
                    int ending = t.run(50, 9, 200);
                    boolean noCard = t.exchange(n, 0) == 1 || t.exchange(n, 0) == 2 && t.exchange(n, 1) == 0;
                    String what = "size " + size + ", three faults from " + n;
                    Check.due(what, ending, noCard ? TapTerminal.NO_CARD : TapTerminal.LOST);
                    Check.due(what + ", exchanges", t.told(6), n + 3);
                    Check.due(what + ", without an answer", t.told(7), 3);
                    Check.due(what + ", the mix said", t.told(5), 0);
                    withFaults(t, n, 0, 0, 0);
                    dueWholeRun(what + ", the run behind it", t);
                }
            }
        }
    }
}
