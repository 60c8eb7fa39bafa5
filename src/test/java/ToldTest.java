/** Promises 10 to 12: told, exchange and look. */
public final class ToldTest {
    public static void main(String[] args) {
        toldTellsTheLatestRun();
        toldForgetsTheRunBefore();
        toldRefuses();
        exchangeTellsEachKind();
        exchangeRefuses();
        exchangeForgetsTheRunBefore();
        lookTells();
        lookCountsRecords();
        lookRefuses();
        Check.done();
    }

    private static void toldTellsTheLatestRun() {
        TapTerminal t = Scene.withGoodCard(16);
        t.fault(4, 2);
        t.run(100, 8, 200);
        int mix = Scene.mixOf(Scene.KEY, 1, 1, 100, 8, 48);
        Check.due("told", Scene.told(t), "[1, 0, 48, 1, 1, " + mix + ", 9, 1, 1, 2]");
        t.card(3, 0, 7, 1, 3);
        t.field(3, true);
        t.fault(4, 0);
        t.run(50, 9, 301);
        mix = Scene.mixOf(Scene.KEY, 0, 2, 50, 9, 2);
        Check.due("told behind another card", Scene.told(t), "[0, 0, 2, 0, 2, " + mix + ", 13, 0, 2, 2]");
    }

    private static void toldForgetsTheRunBefore() {
        TapTerminal t = Scene.withGoodCard(16);
        t.run(100, 8, 200);
        t.field(0, false);
        t.run(100, 8, 200);
        Check.due("told", Scene.told(t), "[3, -1, 0, -1, 0, 0, 3, 3, 0, 0]");
    }

    private static void toldRefuses() {
        TapTerminal t = Scene.withGoodCard(16);
        Check.due("told -1 before a run", t.told(-1), -1);
        t.run(100, 8, 200);
        Check.due("told -1", t.told(-1), -1);
        Check.due("told 10", t.told(10), -1);
        Check.due("told of the greatest", t.told(Integer.MAX_VALUE), -1);
    }

    private static void exchangeTellsEachKind() {
        TapTerminal t = Scene.withGoodCard(8);
        t.card(1, 91, 2, 1, 3);
        t.card(2, 200, 2, 1, 3);
        t.card(3, 80, 1, 1, 3);
        for (int c = 1; c < 4; c++) {
            t.field(c, true);
        }
        t.fault(5, 1);
        t.run(50, 9, 200);
        Check.due("trace", Scene.trace(t), "WAKE0 ASK0 ASK1 ASK5 SELECT80 I0- NAK0 I0 OFF80 ASK0 ASK1 ASK8 SELECT90"
                + " I0 I1 I0 ACK1 I0 ACK1 I0 I1");
        Check.due("exchanges", t.told(6), 21);
    }

    private static void exchangeRefuses() {
        TapTerminal t = Scene.withGoodCard(16);
        t.run(50, 9, 200);
        Check.due("the first", t.exchange(0, 0), 1);
        Check.due("the last", t.exchange(7, 0), 5);
        Check.due("one behind the last", t.exchange(8, 0), -1);
        Check.due("exchange -1", t.exchange(-1, 0), -1);
        Check.due("exchange 128", t.exchange(128, 0), -1);
        Check.due("what -1", t.exchange(0, -1), -1);
        Check.due("what 3", t.exchange(0, 3), -1);
    }

    private static void exchangeForgetsTheRunBefore() {
        TapTerminal t = Scene.withGoodCard(16);
        t.run(50, 9, 200);
        t.field(0, false);
        t.run(50, 9, 200);
        Check.due("trace", Scene.trace(t), "WAKE0- WAKE0- WAKE0-");
        Check.due("one of the run before", t.exchange(5, 0), -1);
    }

    private static void lookTells() {
        TapTerminal t = Scene.withGoodCard(16);
        Check.due("before a run", Scene.look(t, 0), "[1, 90, 0, 0, 0, 2]");
        t.run(50, 9, 200);
        t.run(50, 9, 200);
        Check.due("behind two runs", Scene.look(t, 0), "[1, 90, 2, 2, 10, 2]");
        t.field(0, false);
        Check.due("out of the field", Scene.look(t, 0), "[0, 90, 2, 2, 10, 2]");
    }

    private static void lookCountsRecords() {
        TapTerminal t = Scene.withEmptyCard(16);
        Check.due("no records", t.look(0, 5), 0);
        t.write(0, 1, 0);
        Check.due("record 1", t.look(0, 5), 2);
        t.write(0, 0, 0);
        Check.due("records 0 and 1", t.look(0, 5), 2);
        t.write(0, 2, 0);
        Check.due("record 2", t.look(0, 5), 3);
    }

    private static void lookRefuses() {
        TapTerminal t = Scene.withGoodCard(16);
        Check.due("card -1", t.look(-1, 0), -1);
        Check.due("card 4", t.look(4, 0), -1);
        Check.due("a card that is not there", t.look(1, 0), -1);
        Check.due("what -1", t.look(0, -1), -1);
        Check.due("what 6", t.look(0, 6), -1);
    }
}
