/** Promises 6 to 8: terminal, takes and fault. */
public final class SettingsTest {
    public static void main(String[] args) {
        terminalTakesItsEdges();
        terminalRefuses();
        takesChoosesApplications();
        takesRefuses();
        faultTellsTheOneBefore();
        faultRefuses();
        faultsStayForEachRun();
        Check.done();
    }

    private static void terminalTakesItsEdges() {
        TapTerminal t = new TapTerminal();
        Check.due("the low edges", t.terminal(0, Integer.MIN_VALUE, 0, false, Integer.MIN_VALUE), true);
        Check.due("the high edges", t.terminal(255, Integer.MAX_VALUE, 254, true, Integer.MAX_VALUE), true);
        Check.due("way 1", t.terminal(1, 1, 2, true, 1), true);
    }

    private static void terminalRefuses() {
        TapTerminal t = Scene.withGoodCard(16);
        Check.due("place -1", t.terminal(-1, 0, 0, false, 0), false);
        Check.due("place 256", t.terminal(256, 0, 0, false, 0), false);
        Check.due("ways -2", t.terminal(2, 0, -2, false, 0), false);
        Check.due("ways 1", t.terminal(2, 0, 1, false, 0), false);
        Check.due("ways 255", t.terminal(2, 0, 255, false, 0), false);
        Check.due("ways 256", t.terminal(2, 0, 256, false, 0), false);
        t.run(50, 9, 200);
        Check.due("findings after it all", t.told(2), 0);
        t.run(100, 9, 200);
        Check.due("findings at the floor", t.told(2), 16);
        Check.due("it is online still", t.told(3), TapTerminal.ONLINE);
    }

    private static void takesChoosesApplications() {
        for (int application = 0; application < 8; application++) {
            TapTerminal t = new TapTerminal();
            t.card(0, 1, application, 1, 3);
            t.field(0, true);
            Check.due("takes one", t.takes(1 << application), true);
            t.run(1, 1, 1);
            Check.due("chosen", t.told(1), 0);
            Check.due("takes all others", t.takes(255 - (1 << application)), true);
            t.run(1, 1, 1);
            Check.due("not chosen", t.told(1), -1);
        }
    }

    private static void takesRefuses() {
        TapTerminal t = Scene.withGoodCard(16);
        Check.due("takes -1", t.takes(-1), false);
        Check.due("takes 256", t.takes(256), false);
        Check.due("run after it all", t.run(50, 9, 200), TapTerminal.APPROVE);
        Check.due("takes 0", t.takes(0), true);
        Check.due("run without applications", t.run(50, 9, 200), TapTerminal.NO_CARD);
    }

    private static void faultTellsTheOneBefore() {
        TapTerminal t = new TapTerminal();
        Check.due("fault at the low edge", t.fault(0, 1), 0);
        Check.due("fault at the high edge", t.fault(127, 2), 0);
        Check.due("the one at 0", t.fault(0, 2), 1);
        Check.due("the one at 127", t.fault(127, 0), 2);
        Check.due("the one at 0 again", t.fault(0, 0), 2);
        Check.due("none is left at 127", t.fault(127, 0), 0);
    }

    private static void faultRefuses() {
        TapTerminal t = new TapTerminal();
        Check.due("fault at -1", t.fault(-1, 0), -1);
        Check.due("fault at 128", t.fault(128, 0), -1);
        Check.due("fault -1", t.fault(5, -1), -1);
        Check.due("fault 3", t.fault(5, 3), -1);
        Check.due("nothing changed", t.fault(5, 0), 0);
    }

    private static void faultsStayForEachRun() {
        TapTerminal t = Scene.withGoodCard(16);
        t.fault(1, 2);
        for (int round = 0; round < 3; round++) {
            t.run(50, 9, 200);
            Check.due("run with a fault", Scene.trace(t), "WAKE0 ASK0- ASK0 SELECT90 I0 I1 I0 I1 I0");
        }
        t.fault(1, 0);
        t.run(50, 9, 200);
        Check.due("run without one", Scene.trace(t), "WAKE0 ASK0 SELECT90 I0 I1 I0 I1 I0");
    }
}
