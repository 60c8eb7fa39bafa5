/** Promise 1: a new object. */
public final class NewObjectTest {
    public static void main(String[] args) {
        hasNoCards();
        ranNothing();
        hasNoFaults();
        takesNoApplications();
        hasTheSettingsOfANewOne();
        hasNoWays();
        isLikeEveryOther();
        Check.done();
    }

    private static void hasNoCards() {
        TapTerminal t = new TapTerminal();
        for (int c = 0; c < 4; c++) {
            Check.due("look at a card that is not there", t.look(c, 0), -1);
            Check.due("field of a card that is not there", t.field(c, true), false);
        }
        Check.due("run without cards", t.run(1, 1, 1), TapTerminal.NO_CARD);
        Check.due("run without cards", Scene.trace(t), "WAKE0- WAKE0- WAKE0-");
    }

    private static void ranNothing() {
        TapTerminal t = new TapTerminal();
        Check.due("told before a run", Scene.told(t), "[-1, -1, 0, -1, 0, 0, 0, 0, 0, 0]");
        Check.due("exchange before a run", t.exchange(0, 0), -1);
    }

    private static void hasNoFaults() {
        TapTerminal t = new TapTerminal();
        for (int n = 0; n < 128; n++) {
            Check.due("fault " + n, t.fault(n, 0), 0);
        }
    }

    private static void takesNoApplications() {
        TapTerminal t = new TapTerminal();
        for (int c = 0; c < 4; c++) {
            t.card(c, c, c, 0, 3);
            t.field(c, true);
        }
        Check.due("run without applications", t.run(1, 1, 1), TapTerminal.NO_CARD);
        Check.due("cards asked", t.told(8), 4);
    }

    /** PLACE 0 and the issuer's key 0 find nothing; FLOOR 0 is reached at 0 and not below; online; way 1 is not there. */
    private static void hasTheSettingsOfANewOne() {
        TapTerminal t = new TapTerminal();
        t.takes(1);
        t.card(0, 1, 0, 0, 16);
        t.field(0, true);
        int sign = Scene.mixOf(0, 0, 9, 0, 1, 1, 0, 2, 0, 16, 0);
        Scene.writeRecords(t, 0, Scene.rows(Scene.item(1, 0, 9), Scene.item(2, 0), Scene.item(3, 1, 1, 0, 2),
                Scene.item(4, 0, 16, 0)), Scene.item(5, Scene.octets(sign)));
        Check.due("run below the floor", t.run(-1, 1, 9), TapTerminal.APPROVE);
        Check.due("findings below the floor", t.told(2), 0);
        Check.due("run at the floor", t.run(0, 1, 9), TapTerminal.ONLINE);
        Check.due("findings at the floor", t.told(2), 8 + 16);
    }

    private static void hasNoWays() {
        for (int way = 1; way <= 7; way++) {
            TapTerminal t = new TapTerminal();
            t.takes(1);
            t.card(0, 1, 0, 0, 16);
            t.field(0, true);
            Scene.writeRecords(t, 0, Scene.item(1, 0, 9), Scene.item(3, way, 0), Scene.item(4, 0, 0, 0));
            t.run(-1, 1, 9);
            Check.due("way " + way, t.told(2) & 8, 8);
        }
    }

    /** What was done to one object is not seen in another. */
    private static void isLikeEveryOther() {
        TapTerminal used = Scene.withGoodCard(16);
        used.fault(0, 1);
        used.run(50, 9, 200);
        ranNothing();
        hasNoCards();
        hasNoFaults();
        takesNoApplications();
        hasTheSettingsOfANewOne();
    }
}
