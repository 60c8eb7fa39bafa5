/** Promises 2 to 5: card, allow, write and field. What they refuse is in RefusedTest. */
public final class CardTest {
    private static final int MIN = Integer.MIN_VALUE, MAX = Integer.MAX_VALUE;
    private static final int[] GOES = Scene.rows(Scene.item(Scene.END, 255, 255), Scene.item(Scene.CODES, 0, 0, 0));

    public static void main(String[] args) {
        cardsAre0To3();
        addressesAreOctets();
        applicationsAre0To7();
        keysAreAnyInts();
        sizesAre3To16();
        aNewCardIsNotInTheField();
        aNewCardHasDoneNothing();
        aNewCardHasNoRecords();
        aNewCardHasTheGreatestCap();
        aNewCardHasALimitOf255();
        aNewCardIsWhatItIsSaidToBe();
        aNewCardLeavesAllElse();
        aNewCardIsNotInTheWay();
        capsAreAnyInts();
        limitsAreOctets();
        allowIsOfOneCard();
        allowChangesNothingElse();
        writeTellsHowManyThereAre();
        writeTakesOctets();
        writeKeepsTheOrder();
        recordsAreFullOneByOne();
        fieldComesAndGoes();
        fieldKeepsAddressesApart();
        fieldLetsOutWhateverIsIn();
        fieldTellsAddressesApartByEachBit();
        Check.done();
    }

    private static void cardsAre0To3() {
        TapTerminal t = new TapTerminal();
        for (int c = 0; c <= 3; c++) {
            Check.due("card " + c, t.card(c, 10 + c, 1, 1, 3), true);
            Check.due("look at card " + c, Scene.look(t, c), "[0, " + (10 + c) + ", 0, 0, 0, 0]");
            Check.due("the next one is not there", t.look(c + 1, 0), TapTerminal.REFUSED);
        }
    }

    private static void addressesAreOctets() {
        for (int address : new int[] {0, 1, 127, 128, 254, 255}) {
            TapTerminal t = new TapTerminal();
            Check.due("address " + address, t.card(0, address, 1, 1, 3), true);
            Check.due("its address", t.look(0, 1), address);
            t.field(0, true);
            t.run(1, 1, 1);
            Check.due("select of " + address, t.exchange(2, 1), address);
        }
    }

    private static void applicationsAre0To7() {
        for (int application = 0; application <= 7; application++) {
            TapTerminal t = new TapTerminal();
            Check.due("application " + application, t.card(0, 1, application, 1, 3), true);
            t.field(0, true);
            t.takes(1 << application);
            Check.due("a run that takes it", t.run(1, 1, 1), TapTerminal.ENDED);
        }
    }

    private static void keysAreAnyInts() {
        for (int key : new int[] {MIN, -1, 0, 1, 255, 256, MAX}) {
            TapTerminal t = Scene.withEmptyCard(16);
            Check.due("key " + key, t.card(0, 90, 2, key, 16), true);
            Scene.writeRecords(t, 0, GOES);
            t.field(0, true);
            t.run(50, 9, 200);
            Check.due("the mix with key " + key, t.told(5), Scene.mixOf(key, 2, 1, 50, 9, 73));
        }
    }

    private static void sizesAre3To16() {
        for (int size = 3; size <= 16; size++) {
            TapTerminal t = new TapTerminal();
            Check.due("size " + size, t.card(0, 1, 1, 1, size), true);
        }
    }

    /** A good card with a CAP, a LIMIT and two runs behind it, made anew in its place. */
    private static TapTerminal madeAnew(int address, int application, int key, int size) {
        TapTerminal t = Scene.withGoodCard(16);
        t.run(50, 9, 200);
        t.allow(0, 0, 0);
        t.run(0, 9, 200);
        t.allow(0, 60, 9);
        t.run(60, 9, 200);
        Check.due("the card before", Scene.look(t, 0), "[1, 90, 3, 1, 15, 2]");
        Check.due("a new card", t.card(0, address, application, key, size), true);
        return t;
    }

    private static void aNewCardIsNotInTheField() {
        TapTerminal t = madeAnew(90, 2, 1, 16);
        Check.due("it is out", t.look(0, 0), 0);
        Check.due("a run without it", t.run(50, 9, 200), TapTerminal.NO_CARD);
    }

    private static void aNewCardHasDoneNothing() {
        TapTerminal t = madeAnew(90, 2, 1, 16);
        Check.due("counter", t.look(0, 2), 0);
        Check.due("runs", t.look(0, 3), 0);
        Check.due("commands", t.look(0, 4), 0);
    }

    private static void aNewCardHasNoRecords() {
        TapTerminal t = madeAnew(90, 2, 1, 16);
        Check.due("records", t.look(0, 5), 0);
        for (int r = 0; r < 3; r++) {
            Check.due("the first octet of record " + r, t.write(0, r, 1), 1);
        }
    }

    private static void aNewCardHasTheGreatestCap() {
        TapTerminal t = madeAnew(90, 2, 1, 16);
        Scene.writeRecords(t, 0, GOES);
        t.field(0, true);
        Check.due("the greatest amount", t.run(MAX, 9, 200), TapTerminal.APPROVE);
    }

    private static void aNewCardHasALimitOf255() {
        TapTerminal t = madeAnew(90, 2, 1, 16);
        Scene.writeRecords(t, 0, GOES);
        t.field(0, true);
        for (int n = 1; n <= 255; n++) {
            Check.due("approval " + n, t.run(50, 9, 200), TapTerminal.APPROVE);
        }
        Check.due("runs", t.look(0, 3), 255);
        Check.due("the run behind them", t.run(50, 9, 200), TapTerminal.ONLINE);
        Check.due("runs behind it", t.look(0, 3), 0);
    }

    private static void aNewCardIsWhatItIsSaidToBe() {
        TapTerminal t = madeAnew(17, 3, 4, 5);
        t.takes(8);
        Scene.writeRecords(t, 0, GOES);
        t.field(0, true);
        Check.due("run", t.run(50, 9, 200), TapTerminal.APPROVE);
        Check.due("its address and size", Scene.trace(t),
                "WAKE0 ASK0 SELECT17 I0 I1 I0 ACK1 I0 I1 I0 ACK1");
        Check.due("its key", t.told(5), Scene.mixOf(4, 2, 1, 50, 9, 73));
    }

    private static void aNewCardLeavesAllElse() {
        TapTerminal t = Scene.withGoodCard(16);
        t.card(1, 91, 2, 1, 3);
        t.field(1, true);
        t.run(50, 9, 200);
        String told = Scene.told(t);
        String trace = Scene.trace(t);
        String look = Scene.look(t, 0);
        t.card(1, 7, 7, 7, 7);
        Check.due("the other card", Scene.look(t, 0), look);
        t.card(0, 7, 7, 7, 7);
        Check.due("what is told of the run", Scene.told(t), told);
        Check.due("the exchanges of the run", Scene.trace(t), trace);
    }

    /** The ADDRESS of a CARD that was made anew, and so is out, is free. */
    private static void aNewCardIsNotInTheWay() {
        TapTerminal t = madeAnew(90, 2, 1, 16);
        t.card(1, 90, 1, 1, 3);
        Check.due("another one with its address", t.field(1, true), true);
        Check.due("it stays out then", t.field(0, true), false);
    }

    private static void capsAreAnyInts() {
        for (int cap : new int[] {MIN, -1, 0, 1, 49, MAX - 1}) {
            TapTerminal t = Scene.withCard(16, GOES);
            Check.due("cap " + cap, t.allow(0, cap, 255), true);
            Check.due("one below " + cap, t.run(cap == MIN ? MIN : cap - 1, 9, 200), TapTerminal.APPROVE);
            Check.due("at " + cap, t.run(cap, 9, 200), TapTerminal.APPROVE);
            Check.due("one above " + cap, t.run(cap + 1, 9, 200), TapTerminal.DECLINE);
        }
        TapTerminal t = Scene.withCard(16, GOES);
        Check.due("the greatest cap", t.allow(0, MAX, 255), true);
        Check.due("at the greatest cap", t.run(MAX, 9, 200), TapTerminal.APPROVE);
    }

    private static void limitsAreOctets() {
        for (int limit : new int[] {0, 1, 2, 127, 128, 254, 255}) {
            TapTerminal t = Scene.withCard(16, GOES);
            Check.due("limit " + limit, t.allow(0, 50, limit), true);
            for (int n = 0; n < limit; n++) {
                Check.due("approval with limit " + limit, t.run(50, 9, 200), TapTerminal.APPROVE);
            }
            Check.due("runs at limit " + limit, t.look(0, 3), limit);
            Check.due("online at limit " + limit, t.run(50, 9, 200), TapTerminal.ONLINE);
        }
    }

    private static void allowIsOfOneCard() {
        TapTerminal t = Scene.withCard(16, GOES);
        for (int c = 1; c <= 3; c++) {
            t.card(c, 90 + c, 2, 1, 3);
            Check.due("allow of card " + c, t.allow(c, 0, 0), true);
        }
        Check.due("another card", t.run(50, 9, 200), TapTerminal.APPROVE);
    }

    private static void allowChangesNothingElse() {
        TapTerminal t = Scene.withCard(16, GOES);
        t.run(50, 9, 200);
        String look = Scene.look(t, 0);
        t.allow(0, 7, 7);
        Check.due("the card behind it", Scene.look(t, 0), look);
    }

    private static void writeTellsHowManyThereAre() {
        TapTerminal t = new TapTerminal();
        for (int c : new int[] {0, 3}) {
            t.card(c, c, 1, 1, 3);
            for (int r = 0; r <= 2; r++) {
                for (int n = 1; n <= 24; n++) {
                    Check.due("write to record " + r, t.write(c, r, 9), n);
                }
                Check.due("write of a 25th", t.write(c, r, 9), TapTerminal.FULL);
                Check.due("write of a 26th", t.write(c, r, 9), TapTerminal.FULL);
            }
        }
    }

    /** 0 and 255 are OCTETS: as END they come to 255 and to 65280. */
    private static void writeTakesOctets() {
        TapTerminal t = Scene.withCard(16, Scene.item(Scene.CODES, 0, 0, 0), Scene.item(Scene.END, 0, 255));
        t.run(50, 9, 255);
        Check.due("at 255", t.told(2) & 2, 0);
        t.run(50, 9, 256);
        Check.due("behind 255", t.told(2) & 2, 2);
        t = Scene.withCard(16, Scene.item(Scene.CODES, 0, 0, 0), Scene.item(Scene.END, 255, 0));
        t.run(50, 9, 65280);
        Check.due("at 65280", t.told(2) & 2, 0);
        t.run(50, 9, 65281);
        Check.due("behind 65280", t.told(2) & 2, 2);
    }

    /** An OCTET comes behind those that are there, between runs too. */
    private static void writeKeepsTheOrder() {
        TapTerminal t = Scene.withCard(16, Scene.rows(GOES, new int[] {9, 1}));
        Check.due("an octet is missing", t.run(50, 9, 200), TapTerminal.ENDED);
        Check.due("the one that was missing", t.write(0, 0, 0), 12);
        Check.due("none is missing", t.run(50, 9, 200), TapTerminal.APPROVE);
    }

    private static void recordsAreFullOneByOne() {
        TapTerminal t = new TapTerminal();
        t.card(1, 1, 1, 1, 3);
        t.card(2, 2, 1, 1, 3);
        for (int n = 1; n <= 24; n++) {
            t.write(1, 1, 9);
        }
        Check.due("the full one", t.write(1, 1, 9), TapTerminal.FULL);
        Check.due("the one before it", t.write(1, 0, 9), 1);
        Check.due("the one behind it", t.write(1, 2, 9), 1);
        Check.due("that of another card", t.write(2, 1, 9), 1);
    }

    private static void fieldComesAndGoes() {
        TapTerminal t = new TapTerminal();
        for (int c : new int[] {0, 3}) {
            t.card(c, c, 1, 1, 3);
            Check.due("out when it is out", t.field(c, false), true);
            Check.due("it is out still", t.look(c, 0), 0);
            Check.due("in", t.field(c, true), true);
            Check.due("it is in", t.look(c, 0), 1);
            Check.due("in when it is in", t.field(c, true), true);
            Check.due("it is in still", t.look(c, 0), 1);
            Check.due("out", t.field(c, false), true);
            Check.due("it is out", t.look(c, 0), 0);
        }
    }

    private static void fieldKeepsAddressesApart() {
        for (int first = 0; first < 4; first++) {
            for (int second = 0; second < 4; second++) {
                if (first != second) {
                    TapTerminal t = new TapTerminal();
                    t.card(first, 9, 1, 1, 3);
                    t.card(second, 9, 1, 1, 3);
                    Check.due("the first one", t.field(first, true), true);
                    Check.due("its address again", t.field(second, true), false);
                    Check.due("the first one stays in", t.look(first, 0), 1);
                    Check.due("the other stays out", t.look(second, 0), 0);
                    Check.due("the first one goes out", t.field(first, false), true);
                    Check.due("its address is free", t.field(second, true), true);
                    Check.due("it is taken for the first one", t.field(first, true), false);
                }
            }
        }
    }

    private static void fieldLetsOutWhateverIsIn() {
        TapTerminal t = new TapTerminal();
        t.card(0, 9, 1, 1, 3);
        t.card(3, 9, 1, 1, 3);
        t.field(0, true);
        Check.due("out, with its address in the field", t.field(3, false), true);
        Check.due("it is out", t.look(3, 0), 0);
        Check.due("the other is in", t.look(0, 0), 1);
    }

    private static void fieldTellsAddressesApartByEachBit() {
        for (int bit = 1; bit <= 128; bit *= 2) {
            TapTerminal t = new TapTerminal();
            t.card(0, 0, 1, 1, 3);
            t.card(1, bit, 1, 1, 3);
            Check.due("address 0", t.field(0, true), true);
            Check.due("address " + bit, t.field(1, true), true);
        }
    }
}
