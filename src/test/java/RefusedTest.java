/** Promises 2 to 8 and 10 to 12: each call that is refused, at both sides of each edge, and that it changes nothing. */
public final class RefusedTest {
    private static final int MIN = Integer.MIN_VALUE, MAX = Integer.MAX_VALUE;

    public static void main(String[] args) {
        cardsOutside();
        addressesThatAreNoOctet();
        applicationsOutside();
        sizesOutside();
        cardsThatAreNotThereStaySo();
        allowOfNoSuchCard();
        limitsThatAreNoOctet();
        writeToNoSuchCard();
        writeToNoSuchRecord();
        writeOfNoOctet();
        writeToAFullRecord();
        fieldOfNoSuchCard();
        fieldWithAnAddressThatIsInIt();
        placesThatAreNoOctet();
        waysThatAreNotSo();
        applicationSumsThatAreNotSo();
        faultsOfNoSuchExchange();
        faultsOfNoSuchKind();
        toldOfOthers();
        exchangesThatWereNot();
        exchangesOfOthers();
        looksAtNoSuchCard();
        looksOfOthers();
        Check.done();
    }

    /** "False, and nothing changes, if c is not 0..3". */
    private static void cardsOutside() {
        for (int c : new int[] {-1, 4, MIN, MAX}) {
            Twins.sayFalse("card " + c, t -> t.card(c, 1, 1, 1, 5));
        }
    }

    /** "False, and nothing changes, if ... address no OCTET". */
    private static void addressesThatAreNoOctet() {
        for (int address : new int[] {-1, 256, MIN, MAX}) {
            Twins.sayFalse("card with address " + address, t -> t.card(0, address, 1, 1, 5));
        }
    }

    /** "False, and nothing changes, if ... application not 0..7". */
    private static void applicationsOutside() {
        for (int application : new int[] {-1, 8, MIN, MAX}) {
            Twins.sayFalse("card with application " + application, t -> t.card(0, 1, application, 1, 5));
        }
    }

    /** "False, and nothing changes, if ... size not 3..16". */
    private static void sizesOutside() {
        for (int size : new int[] {-1, 0, 2, 17, MIN, MAX}) {
            Twins.sayFalse("card with size " + size, t -> t.card(0, 1, 1, 1, size));
        }
    }

    private static void cardsThatAreNotThereStaySo() {
        Twins.sayFalse("new card with address -1", t -> t.card(3, -1, 2, 1, 5));
        Twins.sayFalse("new card with address 256", t -> t.card(3, 256, 2, 1, 5));
        Twins.sayFalse("new card with application 8", t -> t.card(3, 1, 8, 1, 5));
        Twins.sayFalse("new card with size 2", t -> t.card(3, 1, 2, 1, 2));
        Twins.sayFalse("new card with size 17", t -> t.card(3, 1, 2, 1, 17));
    }

    /** "False if there is no such CARD" (3). */
    private static void allowOfNoSuchCard() {
        for (int c : new int[] {-1, 3, 4, MIN, MAX}) {
            Twins.sayFalse("allow of card " + c, t -> t.allow(c, 1, 1));
        }
    }

    /** "Or limit is no OCTET" (3); the CAP that comes with it is not taken either. */
    private static void limitsThatAreNoOctet() {
        for (int limit : new int[] {-1, 256, MIN, MAX}) {
            Twins.sayFalse("allow with limit " + limit, t -> t.allow(0, 1, limit));
        }
    }

    /** "REFUSED if there is no such CARD" (4). */
    private static void writeToNoSuchCard() {
        for (int c : new int[] {-1, 3, 4, MIN, MAX}) {
            Twins.sayRefused("write to card " + c, t -> t.write(c, 0, 1));
        }
    }

    /** "REFUSED if there is no such ... RECORD" (4). */
    private static void writeToNoSuchRecord() {
        for (int r : new int[] {-1, 3, MIN, MAX}) {
            Twins.sayRefused("write to record " + r, t -> t.write(0, r, 1));
        }
    }

    /** "Or v is no OCTET" (4), be the RECORD full or not. */
    private static void writeOfNoOctet() {
        for (int v : new int[] {-1, 256, MIN, MAX}) {
            Twins.sayRefused("write of " + v, t -> t.write(0, 0, v));
            Twins.sayRefused("write to an empty record of " + v, t -> t.write(1, 2, v));
            Twins.sayRefused("write to a full record of " + v, t -> t.write(0, 2, v));
        }
    }

    /** "FULL if it has 24" (4). */
    private static void writeToAFullRecord() {
        for (int v : new int[] {0, 200, 255}) {
            Twins.say("write to a full record of " + v, t -> t.write(0, 2, v), TapTerminal.FULL);
        }
    }

    /** "False if there is no such CARD" (5). */
    private static void fieldOfNoSuchCard() {
        for (int c : new int[] {-1, 3, 4, MIN, MAX}) {
            Twins.sayFalse("field of card " + c + ", in", t -> t.field(c, true));
            Twins.sayFalse("field of card " + c + ", out", t -> t.field(c, false));
        }
    }

    /** "Or (in) another one with its ADDRESS is in it" (5). */
    private static void fieldWithAnAddressThatIsInIt() {
        Twins.sayFalse("field of a card with the address of another", t -> t.field(2, true));
    }

    /** "False, and nothing changes, if place ... not so" (6). */
    private static void placesThatAreNoOctet() {
        for (int place : new int[] {-1, 256, 257, MIN, MAX}) {
            Twins.sayFalse("place " + place, t -> t.terminal(place, 0, 2, false, 0));
        }
    }

    /** "False, and nothing changes, if ... ways are not so" (6): outside of 0..254, or odd. */
    private static void waysThatAreNotSo() {
        for (int ways : new int[] {-2, -1, 1, 3, 127, 253, 255, 256, 258, MIN, MAX}) {
            Twins.sayFalse("ways " + ways, t -> t.terminal(2, 0, ways, false, 0));
        }
    }

    /** "False if it is not so" (7). */
    private static void applicationSumsThatAreNotSo() {
        for (int applications : new int[] {-1, 256, 258, MIN, MAX}) {
            Twins.sayFalse("takes " + applications, t -> t.takes(applications));
        }
    }

    /** "REFUSED if a number is not so" (8): the EXCHANGE. */
    private static void faultsOfNoSuchExchange() {
        for (int n : new int[] {-1, 128, MIN, MAX}) {
            for (int kind = 0; kind <= 2; kind++) {
                int fault = kind;
                Twins.sayRefused("fault " + kind + " at " + n, t -> t.fault(n, fault));
            }
        }
    }

    /** "REFUSED if a number is not so" (8): the FAULT. */
    private static void faultsOfNoSuchKind() {
        for (int kind : new int[] {-1, 3, MIN, MAX}) {
            Twins.sayRefused("fault " + kind + " where none is", t -> t.fault(0, kind));
            Twins.sayRefused("fault " + kind + " where one is", t -> t.fault(4, kind));
            Twins.sayRefused("fault " + kind + " at the last", t -> t.fault(127, kind));
        }
    }

    /** "REFUSED for others" (10). */
    private static void toldOfOthers() {
        for (int what : new int[] {-1, 10, MIN, MAX}) {
            Twins.sayRefused("told " + what, t -> t.told(what));
            Check.due("told " + what + " before a run", new TapTerminal().told(what), TapTerminal.REFUSED);
        }
    }

    /** "REFUSED if there was none" (11): the latest run of the twins had the EXCHANGES 0 to 18. */
    private static void exchangesThatWereNot() {
        for (int n : new int[] {-1, 19, 127, 128, MIN, MAX}) {
            for (int what = 0; what <= 2; what++) {
                int asked = what;
                Twins.sayRefused("exchange " + n + ", " + what, t -> t.exchange(n, asked));
            }
        }
    }

    /** "Or for others" (11). */
    private static void exchangesOfOthers() {
        for (int what : new int[] {-1, 3, MIN, MAX}) {
            Twins.sayRefused("the first exchange, " + what, t -> t.exchange(0, what));
            Twins.sayRefused("the last exchange, " + what, t -> t.exchange(18, what));
        }
    }

    /** "REFUSED if there is no such CARD" (12). */
    private static void looksAtNoSuchCard() {
        for (int c : new int[] {-1, 3, 4, MIN, MAX}) {
            for (int what = 0; what <= 5; what++) {
                int asked = what;
                Twins.sayRefused("look at card " + c + ", " + what, t -> t.look(c, asked));
            }
        }
    }

    /** "Or for others" (12). */
    private static void looksOfOthers() {
        for (int what : new int[] {-1, 6, MIN, MAX}) {
            Twins.sayRefused("look at card 0, " + what, t -> t.look(0, what));
        }
    }
}
