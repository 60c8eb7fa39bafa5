/** Promises 6 to 8: terminal, takes and fault. What they refuse is in RefusedTest. */
public final class SettingsTest {
    private static final int MIN = Integer.MIN_VALUE, MAX = Integer.MAX_VALUE;
    private static final int[] END = Scene.item(Scene.END, 255, 255);

    public static void main(String[] args) {
        placesAreOctets();
        floorsAreAnyInts();
        waysAreEvenSums();
        waysAre1To7();
        onlineIsEverOrNever();
        issuersAreAnyInts();
        terminalLeavesAllElse();
        takesSumsOf0To255();
        takesNoneAndAll();
        takesLeavesTheRunBefore();
        faultTellsTheOneBefore();
        faultsHaveThreeKinds();
        theFirstAndTheLastFaultAreUsed();
        faultsStayForEachRun();
        faultsLeaveTheRunBefore();
        Check.done();
    }

    private static int findings(TapTerminal t, int amount) {
        t.run(amount, 9, 200);
        return t.told(2);
    }

    private static void placesAreOctets() {
        for (int place : new int[] {0, 1, 128, 254, 255}) {
            TapTerminal t = Scene.withCard(16, END, Scene.item(Scene.CODES, 0, 0, 0), Scene.item(Scene.PLACE, place));
            Check.due("place " + place, t.terminal(place, 100, 4, true, 5), true);
            Check.due("at place " + place, findings(t, 50) & 4, 0);
            Check.due("one beside it", t.terminal(place ^ 1, 100, 4, true, 5), true);
            Check.due("beside place " + place, findings(t, 50) & 4, 4);
        }
    }

    private static void floorsAreAnyInts() {
        for (int floor : new int[] {MIN + 1, -1, 0, 1, 100, MAX}) {
            TapTerminal t = Scene.withGoodCard(16);
            Check.due("floor " + floor, t.terminal(1, floor, 4, true, 5), true);
            Check.due("one below " + floor, findings(t, floor - 1) & 16, 0);
            Check.due("at " + floor, findings(t, floor) & 16, 16);
            Check.due("above " + floor, findings(t, floor == MAX ? MAX : floor + 1) & 16, 16);
        }
        TapTerminal t = Scene.withGoodCard(16);
        Check.due("the least floor", t.terminal(1, MIN, 4, true, 5), true);
        Check.due("at the least floor", findings(t, MIN) & 16, 16);
    }

    private static void waysAreEvenSums() {
        TapTerminal t = new TapTerminal();
        for (int ways = 0; ways <= 254; ways += 2) {
            Check.due("ways " + ways, t.terminal(0, 0, ways, true, 0), true);
            Check.due("ways " + (ways + 1), t.terminal(0, 0, ways + 1, true, 0), false);
        }
    }

    /** Each way goes if it is in the sum, and only then. */
    private static void waysAre1To7() {
        for (int way = 1; way <= 7; way++) {
            TapTerminal t = Scene.withCard(16, END, Scene.item(Scene.CODES, 0, 0, 0), Scene.item(Scene.WAYS, way, 0));
            t.terminal(1, 100, 1 << way, true, 5);
            Check.due("way " + way + " alone", findings(t, 50) & 8, 0);
            t.terminal(1, 100, 254, true, 5);
            Check.due("way " + way + " among all", findings(t, 50) & 8, 0);
            t.terminal(1, 100, 254 - (1 << way), true, 5);
            Check.due("all but way " + way, findings(t, 50) & 8, 8);
            t.terminal(1, 100, 0, true, 5);
            Check.due("none, asked for way " + way, findings(t, 50) & 8, 8);
        }
    }

    private static void onlineIsEverOrNever() {
        TapTerminal t = Scene.withCard(16, END, Scene.item(Scene.CODES, 0, 16, 16));
        Check.due("ever", t.terminal(1, 100, 4, true, 5), true);
        Check.due("a run that may be online", t.run(100, 9, 200), TapTerminal.ONLINE);
        Check.due("never", t.terminal(1, 100, 4, false, 5), true);
        Check.due("a run that may not", t.run(100, 9, 200), TapTerminal.DECLINE);
        Check.due("ever again", t.terminal(1, 100, 4, true, 5), true);
        Check.due("a run that may again", t.run(100, 9, 200), TapTerminal.ONLINE);
    }

    private static void issuersAreAnyInts() {
        for (int issuer : new int[] {MIN, -1, 0, 1, 65536, MAX}) {
            int sign = Scene.mixOf(issuer, 255, 255, 0, 0, 0);
            TapTerminal t = Scene.withCard(16, END, Scene.item(Scene.CODES, 0, 0, 0),
                    Scene.item(Scene.SIGN, Scene.octets(sign)));
            Check.due("issuer " + issuer, t.terminal(1, 100, 4, true, issuer), true);
            Check.due("its sign", findings(t, 50) & 1, 0);
            t.terminal(1, 100, 4, true, issuer ^ MIN);
            Check.due("the sign of another", findings(t, 50) & 1, 1);
        }
    }

    private static void terminalLeavesAllElse() {
        TapTerminal t = Scene.withGoodCard(16);
        t.run(100, 9, 200);
        String told = Scene.told(t);
        t.terminal(255, MIN, 254, false, MAX);
        Check.due("what is told of the run before", Scene.told(t), told);
        Check.due("the card", Scene.look(t, 0), "[1, 90, 1, 0, 5, 2]");
        t.run(100, 9, 200);
        Check.due("the applications", t.told(1), 0);
    }

    private static void takesSumsOf0To255() {
        for (int application = 0; application < 8; application++) {
            TapTerminal t = new TapTerminal();
            t.card(0, 1, application, 1, 3);
            t.field(0, true);
            Check.due("takes one", t.takes(1 << application), true);
            t.run(1, 1, 1);
            Check.due("chosen", t.told(1), 0);
            Check.due("takes all others", t.takes(255 - (1 << application)), true);
            t.run(1, 1, 1);
            Check.due("not chosen", t.told(1), -1);
        }
    }

    private static void takesNoneAndAll() {
        for (int application = 0; application < 8; application++) {
            TapTerminal t = new TapTerminal();
            t.card(0, 1, application, 1, 3);
            t.field(0, true);
            Check.due("takes 255", t.takes(255), true);
            Check.due("a run that takes all", t.run(1, 1, 1), TapTerminal.ENDED);
            Check.due("takes 0", t.takes(0), true);
            Check.due("a run that takes none", t.run(1, 1, 1), TapTerminal.NO_CARD);
        }
    }

    private static void takesLeavesTheRunBefore() {
        TapTerminal t = Scene.withGoodCard(16);
        t.run(50, 9, 200);
        String told = Scene.told(t);
        t.takes(0);
        Check.due("told", Scene.told(t), told);
    }

    private static void faultTellsTheOneBefore() {
        TapTerminal t = new TapTerminal();
        Check.due("fault at the low edge", t.fault(0, 1), 0);
        Check.due("fault at the high edge", t.fault(127, 2), 0);
        Check.due("one beside the low edge", t.fault(1, 0), 0);
        Check.due("one beside the high edge", t.fault(126, 0), 0);
        Check.due("the one at 0", t.fault(0, 2), 1);
        Check.due("the one at 127", t.fault(127, 0), 2);
        Check.due("the one at 0 again", t.fault(0, 0), 2);
        Check.due("none is left at 127", t.fault(127, 0), 0);
    }

    private static void faultsHaveThreeKinds() {
        TapTerminal t = Scene.withGoodCard(16);
        t.fault(7, 1);
        t.fault(8, 1);
        t.fault(9, 1);
        Check.due("what is sent is not heard", t.run(50, 9, 200), TapTerminal.LOST);
        Check.due("the card did not decide", t.look(0, 2), 0);
        t.fault(7, 2);
        Check.due("the answer is not heard", t.run(50, 9, 200), TapTerminal.LOST);
        Check.due("the card decided", t.look(0, 2), 1);
        t.fault(7, 0);
        Check.due("none", t.run(50, 9, 200), TapTerminal.APPROVE);
        Check.due("the card decided again", t.look(0, 2), 2);
    }

    private static void theFirstAndTheLastFaultAreUsed() {
        TapTerminal t = Scene.withGoodCard(16);
        t.fault(0, 1);
        t.run(50, 9, 200);
        Check.due("the first", Scene.trace(t), "WAKE0- WAKE0 ASK0 SELECT90 I0 I1 I0 I1 I0");
        t = Scene.withRunOf128();
        t.run(50, 9, 200);
        Check.due("a run of 128", t.told(6), 128);
        t.fault(127, 2);
        t.run(50, 9, 200);
        Check.due("the last", t.exchange(127, 2), 0);
        Check.due("one more is sent", t.told(6), 129);
    }

    private static void faultsStayForEachRun() {
        TapTerminal t = Scene.withGoodCard(16);
        t.fault(1, 2);
        for (int round = 0; round < 3; round++) {
            t.run(50, 9, 200);
            Check.due("run with a fault", Scene.trace(t), "WAKE0 ASK0- ASK0 SELECT90 I0 I1 I0 I1 I0");
        }
        t.fault(1, 0);
        t.run(50, 9, 200);
        Check.due("run without one", Scene.trace(t), "WAKE0 ASK0 SELECT90 I0 I1 I0 I1 I0");
    }

    private static void faultsLeaveTheRunBefore() {
        TapTerminal t = Scene.withGoodCard(16);
        t.run(50, 9, 200);
        t.fault(1, 2);
        Check.due("told", t.told(7), 0);
        Check.due("exchange", t.exchange(1, 2), 1);
    }
}
