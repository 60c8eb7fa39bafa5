/** Promises 2 to 5: card, allow, write and field. */
public final class CardTest {
    public static void main(String[] args) {
        cardTakesItsEdges();
        cardRefusesWhatIsOutside();
        cardIsANewOne();
        allowSetsCapAndLimit();
        allowRefuses();
        writeCounts();
        writeRefuses();
        fieldComesAndGoes();
        fieldKeepsAddressesApart();
        Check.done();
    }

    private static void cardTakesItsEdges() {
        TapTerminal t = new TapTerminal();
        Check.due("card at the low edges", t.card(0, 0, 0, Integer.MIN_VALUE, 3), true);
        Check.due("card at the high edges", t.card(3, 255, 7, Integer.MAX_VALUE, 16), true);
        Check.due("card 0", Scene.look(t, 0), "[0, 0, 0, 0, 0, 0]");
        Check.due("card 3", Scene.look(t, 3), "[0, 255, 0, 0, 0, 0]");
        Check.due("card 1 is not there", t.look(1, 1), -1);
    }

    private static void cardRefusesWhatIsOutside() {
        TapTerminal t = new TapTerminal();
        t.card(1, 44, 1, 1, 5);
        t.write(1, 0, 7);
        t.field(1, true);
        Check.due("card -1", t.card(-1, 1, 1, 1, 5), false);
        Check.due("card 4", t.card(4, 1, 1, 1, 5), false);
        Check.due("address -1", t.card(1, -1, 1, 1, 5), false);
        Check.due("address 256", t.card(1, 256, 1, 1, 5), false);
        Check.due("application -1", t.card(1, 1, -1, 1, 5), false);
        Check.due("application 8", t.card(1, 1, 8, 1, 5), false);
        Check.due("size 2", t.card(1, 1, 1, 1, 2), false);
        Check.due("size 17", t.card(1, 1, 1, 1, 17), false);
        Check.due("the card after it all", Scene.look(t, 1), "[1, 44, 0, 0, 0, 1]");
    }

    private static void cardIsANewOne() {
        TapTerminal t = Scene.withGoodCard(16);
        t.allow(0, 1000, 9);
        Check.due("run of the old card", t.run(50, 9, 200), TapTerminal.APPROVE);
        Check.due("the old card", Scene.look(t, 0), "[1, 90, 1, 1, 5, 2]");
        t.allow(0, 0, 0);
        t.card(0, 90, 2, Scene.KEY, 16);
        Check.due("the new card", Scene.look(t, 0), "[0, 90, 0, 0, 0, 0]");
        t.field(0, true);
        Scene.writeRecords(t, 0, Scene.item(1, 255, 255), Scene.item(4, 0, 0, 0));
        Check.due("the new card allows any amount", t.run(Integer.MAX_VALUE, 9, 200), TapTerminal.APPROVE);
    }

    private static void allowSetsCapAndLimit() {
        TapTerminal t = Scene.withGoodCard(16);
        Check.due("allow", t.allow(0, 49, 255), true);
        Check.due("run above the cap", t.run(50, 9, 200), TapTerminal.DECLINE);
        Check.due("run at the cap", t.run(49, 9, 200), TapTerminal.APPROVE);
        Check.due("allow a limit of 0", t.allow(0, 50, 0), true);
        Check.due("run at the limit", t.run(50, 9, 200), TapTerminal.ONLINE);
        Check.due("allow a cap below 0", t.allow(0, -1, 255), true);
        Check.due("run above a cap below 0", t.run(0, 9, 200), TapTerminal.DECLINE);
    }

    private static void allowRefuses() {
        TapTerminal t = Scene.withGoodCard(16);
        Check.due("allow of card -1", t.allow(-1, 1, 1), false);
        Check.due("allow of card 4", t.allow(4, 1, 1), false);
        Check.due("allow of a card that is not there", t.allow(1, 1, 1), false);
        Check.due("limit -1", t.allow(0, 1, -1), false);
        Check.due("limit 256", t.allow(0, 1, 256), false);
        Check.due("run after it all", t.run(50, 9, 200), TapTerminal.APPROVE);
    }

    private static void writeCounts() {
        TapTerminal t = new TapTerminal();
        t.card(2, 1, 1, 1, 3);
        for (int r = 0; r < 3; r++) {
            for (int n = 1; n <= 24; n++) {
                Check.due("write", t.write(2, r, n == 1 ? 0 : 255), n);
            }
            Check.due("write to a full record", t.write(2, r, 1), TapTerminal.FULL);
            Check.due("records", t.look(2, 5), r + 1);
        }
    }

    private static void writeRefuses() {
        TapTerminal t = new TapTerminal();
        t.card(2, 1, 1, 1, 3);
        Check.due("write to card -1", t.write(-1, 0, 1), -1);
        Check.due("write to card 4", t.write(4, 0, 1), -1);
        Check.due("write to a card that is not there", t.write(1, 0, 1), -1);
        Check.due("write to record -1", t.write(2, -1, 1), -1);
        Check.due("write to record 3", t.write(2, 3, 1), -1);
        Check.due("write -1", t.write(2, 0, -1), -1);
        Check.due("write 256", t.write(2, 0, 256), -1);
        Check.due("write after it all", t.write(2, 0, 1), 1);
        for (int n = 2; n <= 24; n++) {
            t.write(2, 0, n);
        }
        Check.due("no octet for a full record", t.write(2, 0, 256), -1);
    }

    private static void fieldComesAndGoes() {
        TapTerminal t = new TapTerminal();
        t.card(1, 9, 1, 1, 3);
        Check.due("out when it is out", t.field(1, false), true);
        Check.due("in", t.field(1, true), true);
        Check.due("in when it is in", t.field(1, true), true);
        Check.due("it is in", t.look(1, 0), 1);
        Check.due("out", t.field(1, false), true);
        Check.due("it is out", t.look(1, 0), 0);
        Check.due("field of card -1", t.field(-1, true), false);
        Check.due("field of card 4", t.field(4, false), false);
        Check.due("field of a card that is not there", t.field(0, false), false);
    }

    private static void fieldKeepsAddressesApart() {
        TapTerminal t = new TapTerminal();
        t.card(0, 9, 1, 1, 3);
        t.card(3, 9, 1, 1, 3);
        Check.due("the first one", t.field(0, true), true);
        Check.due("its address again", t.field(3, true), false);
        Check.due("it stays out", t.look(3, 0), 0);
        Check.due("out goes", t.field(3, false), true);
        Check.due("the first one goes", t.field(0, false), true);
        Check.due("its address is free", t.field(3, true), true);
        t.card(0, 8, 1, 1, 3);
        Check.due("another address", t.field(0, true), true);
        t.card(3, 9, 1, 1, 3);
        t.card(1, 9, 1, 1, 3);
        Check.due("a new card is not in the field", t.field(1, true), true);
    }
}
