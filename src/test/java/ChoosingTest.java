/** Promise 9: how a run finds and chooses a card (WAKE, ASK, SELECT, PUT OFF). */
public final class ChoosingTest {
    public static void main(String[] args) {
        asksBitByBit();
        asksDownToTheLastBit();
        asksForEachPair();
        choosesTheApplicationThatGoes();
        putsOffForOneRunOnly();
        cardsOutsideTakeNoPart();
        wakeIsTriedThrice();
        askIsTriedThrice();
        askBehindPutOffIsTriedThrice();
        askWithAPrefixIsLost();
        selectIsTriedThrice();
        putOffIsTriedThrice();
        putOffIsAnsweredWhenHeardAgain();
        selectHeardTwiceBeginsOnce();
        fourCardsArePutOff();
        threeInARowCountFromTheLatestAnswer();
        Check.done();
    }

    /** CARDS 0.. with these ADDRESSES and APPLICATIONS of the same numbers, all in the FIELD. */
    private static TapTerminal cardsAt(int... addresses) {
        TapTerminal t = new TapTerminal();
        for (int c = 0; c < addresses.length; c++) {
            t.card(c, addresses[c], c, c, 16);
            t.field(c, true);
        }
        return t;
    }

    private static void asksBitByBit() {
        TapTerminal t = cardsAt(0b11000000, 0b10100000, 0b10010000, 0b01111111);
        t.takes(255);
        Check.due("run", t.run(1, 1, 1), TapTerminal.ENDED);
        Check.due("the least is chosen", t.told(1), 3);
        Check.due("trace", Scene.trace(t), "WAKE0 ASK0 ASK1 SELECT127 I0 I1");
        t.field(3, false);
        t.run(1, 1, 1);
        Check.due("the least of three is chosen", t.told(1), 2);
        Check.due("trace of three", Scene.trace(t), "WAKE0 ASK0 ASK2 ASK3 SELECT144 I0 I1");
    }

    private static void asksDownToTheLastBit() {
        TapTerminal t = cardsAt(255, 254);
        t.takes(255);
        t.run(1, 1, 1);
        Check.due("the last bit", Scene.trace(t), "WAKE0 ASK0 ASK8 SELECT254 I0 I1");
        t = cardsAt(0, 128);
        t.takes(255);
        t.run(1, 1, 1);
        Check.due("the first bit", Scene.trace(t), "WAKE0 ASK0 ASK1 SELECT0 I0 I1");
    }

    /** The PREFIX has 1 to 8 bits: those before the highest bit in which two ADDRESSES part, and a 0. */
    private static void asksForEachPair() {
        for (int low = 0; low < 256; low++) {
            for (int high = low + 1; high < 256; high++) {
                TapTerminal t = cardsAt(high, low);
                t.takes(255);
                t.run(1, 1, 1);
                int bits = Integer.numberOfLeadingZeros(low ^ high) - 23;
                Check.due("the least of " + low + " and " + high, t.told(1), 1);
                Check.due("bits for " + low + " and " + high, t.exchange(2, 1), bits);
                Check.due("select of " + low + " and not " + high, t.exchange(3, 1), low);
            }
        }
    }

    private static void choosesTheApplicationThatGoes() {
        TapTerminal t = cardsAt(3, 2, 1, 0);
        t.takes(2);
        Check.due("run", t.run(1, 1, 1), TapTerminal.ENDED);
        Check.due("chosen", t.told(1), 1);
        Check.due("answered", t.told(8), 3);
        Check.due("trace", Scene.trace(t), "WAKE0 ASK0 ASK7 ASK8 SELECT0 I0 OFF0 ASK0 ASK7 SELECT1 I0 OFF1"
                + " ASK0 ASK8 SELECT2 I0 I1");
        t.takes(16);
        Check.due("run without one that goes", t.run(1, 1, 1), TapTerminal.NO_CARD);
        Check.due("none is chosen", t.told(1), -1);
        Check.due("all answered", t.told(8), 4);
        Check.due("the asks behind the last one", t.told(7), 3);
        Check.due("commands of one put off", t.look(3, 4), 2);
    }

    private static void putsOffForOneRunOnly() {
        TapTerminal t = cardsAt(10, 20);
        t.takes(2);
        t.run(1, 1, 1);
        Check.due("chosen behind one put off", t.told(1), 1);
        t.takes(1);
        t.run(1, 1, 1);
        Check.due("chosen that was put off", t.told(1), 0);
    }

    private static void cardsOutsideTakeNoPart() {
        TapTerminal t = cardsAt(10, 20);
        t.takes(3);
        t.field(0, false);
        t.run(1, 1, 1);
        Check.due("trace", Scene.trace(t), "WAKE0 ASK0 SELECT20 I0 I1");
        t.field(1, false);
        Check.due("nobody is there", t.run(1, 1, 1), TapTerminal.NO_CARD);
        Check.due("trace without cards", Scene.trace(t), "WAKE0- WAKE0- WAKE0-");
    }

    private static void wakeIsTriedThrice() {
        TapTerminal t = cardsAt(10);
        t.takes(1);
        t.fault(0, 1);
        t.fault(1, 2);
        Check.due("two are not answered", t.run(1, 1, 1), TapTerminal.ENDED);
        Check.due("trace", Scene.trace(t), "WAKE0- WAKE0- WAKE0 ASK0 SELECT10 I0 I1");
        t.fault(2, 1);
        Check.due("three are not answered", t.run(1, 1, 1), TapTerminal.NO_CARD);
        Check.due("trace of three", Scene.trace(t), "WAKE0- WAKE0- WAKE0-");
    }

    private static void askIsTriedThrice() {
        TapTerminal t = cardsAt(10);
        t.takes(1);
        t.fault(1, 1);
        t.fault(2, 2);
        Check.due("two are not answered", t.run(1, 1, 1), TapTerminal.ENDED);
        t.fault(3, 2);
        Check.due("three are not answered", t.run(1, 1, 1), TapTerminal.NO_CARD);
        Check.due("trace", Scene.trace(t), "WAKE0 ASK0- ASK0- ASK0-");
    }

    /** The CARD that is left does not hear: to the terminal none is left. */
    private static void askBehindPutOffIsTriedThrice() {
        TapTerminal t = cardsAt(10, 20);
        t.takes(2);
        t.fault(6, 1);
        t.fault(7, 2);
        Check.due("two are not answered", t.run(1, 1, 1), TapTerminal.ENDED);
        Check.due("trace", Scene.trace(t), "WAKE0 ASK0 ASK4 SELECT10 I0 OFF10 ASK0- ASK0- ASK0 SELECT20 I0 I1");
        t.fault(8, 1);
        Check.due("three are not answered", t.run(1, 1, 1), TapTerminal.NO_CARD);
        Check.due("trace of three", Scene.trace(t), "WAKE0 ASK0 ASK4 SELECT10 I0 OFF10 ASK0- ASK0- ASK0-");
    }

    private static void askWithAPrefixIsLost() {
        TapTerminal t = cardsAt(10, 11);
        t.takes(1);
        t.fault(2, 2);
        t.fault(3, 1);
        Check.due("two are not answered", t.run(1, 1, 1), TapTerminal.ENDED);
        Check.due("trace", Scene.trace(t), "WAKE0 ASK0 ASK8- ASK8- ASK8 SELECT10 I0 I1");
        t.fault(4, 1);
        Check.due("three are not answered", t.run(1, 1, 1), TapTerminal.LOST);
        Check.due("trace of three", Scene.trace(t), "WAKE0 ASK0 ASK8- ASK8- ASK8-");
        Check.due("told", Scene.told(t), "[4, -1, 0, -1, 0, 0, 5, 3, 0, 0]");
    }

    private static void selectIsTriedThrice() {
        TapTerminal t = cardsAt(10);
        t.takes(1);
        t.fault(2, 2);
        t.fault(3, 1);
        t.run(1, 1, 1);
        Check.due("trace", Scene.trace(t), "WAKE0 ASK0 SELECT10- SELECT10- SELECT10 I0 I1");
        Check.due("it was selected once", t.told(8), 1);
        t.fault(4, 2);
        Check.due("three are not answered", t.run(1, 1, 1), TapTerminal.LOST);
        Check.due("it was not selected", t.told(8), 0);
    }

    private static void putOffIsTriedThrice() {
        TapTerminal t = cardsAt(10);
        t.takes(2);
        t.fault(4, 1);
        t.fault(5, 1);
        Check.due("two are not answered", t.run(1, 1, 1), TapTerminal.NO_CARD);
        Check.due("trace", Scene.trace(t), "WAKE0 ASK0 SELECT10 I0 OFF10- OFF10- OFF10 ASK0- ASK0- ASK0-");
        t.fault(6, 2);
        Check.due("three are not answered", t.run(1, 1, 1), TapTerminal.LOST);
        Check.due("trace of three", Scene.trace(t), "WAKE0 ASK0 SELECT10 I0 OFF10- OFF10- OFF10-");
    }

    private static void putOffIsAnsweredWhenHeardAgain() {
        TapTerminal t = cardsAt(10, 138);
        t.takes(2);
        t.fault(5, 2);
        t.fault(6, 2);
        Check.due("run", t.run(1, 1, 1), TapTerminal.ENDED);
        Check.due("trace", Scene.trace(t), "WAKE0 ASK0 ASK1 SELECT10 I0 OFF10- OFF10- OFF10 ASK0 SELECT138 I0 I1");
    }

    private static void selectHeardTwiceBeginsOnce() {
        TapTerminal t = Scene.withGoodCard(16);
        t.fault(5, 1);
        t.fault(6, 1);
        t.fault(7, 1);
        Check.due("a run that is lost in the midst", t.run(50, 9, 200), TapTerminal.LOST);
        t.fault(5, 0);
        t.fault(6, 0);
        t.fault(7, 0);
        t.fault(2, 2);
        Check.due("the next run", t.run(50, 9, 200), TapTerminal.APPROVE);
        Check.due("trace", Scene.trace(t), "WAKE0 ASK0 SELECT90- SELECT90 I0 I1 I0 I1 I0");
    }

    private static void fourCardsArePutOff() {
        TapTerminal t = cardsAt(0, 64, 128, 192);
        t.takes(240);
        Check.due("run", t.run(1, 1, 1), TapTerminal.NO_CARD);
        Check.due("trace", Scene.trace(t), "WAKE0 ASK0 ASK1 ASK2 SELECT0 I0 OFF0 ASK0 ASK1 SELECT64 I0 OFF64"
                + " ASK0 ASK2 SELECT128 I0 OFF128 ASK0 SELECT192 I0 OFF192 ASK0- ASK0- ASK0-");
        Check.due("told", Scene.told(t), "[3, -1, 0, -1, 0, 0, 24, 3, 4, 0]");
    }

    /** Two in a row of each kind are not answered, eight in all, and never three in a row. */
    private static void threeInARowCountFromTheLatestAnswer() {
        TapTerminal t = cardsAt(10);
        t.takes(1);
        for (int n = 0; n < 12; n++) {
            t.fault(n, n % 3 == 2 ? 0 : 1 + n % 2);
        }
        Check.due("run", t.run(1, 1, 1), TapTerminal.ENDED);
        Check.due("trace", Scene.trace(t), "WAKE0- WAKE0- WAKE0 ASK0- ASK0- ASK0 SELECT10- SELECT10- SELECT10"
                + " I0- NAK0- NAK0 I1");
    }
}
