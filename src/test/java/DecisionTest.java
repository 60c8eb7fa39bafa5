/** Promise 9: the type that the terminal asks for, and what the card says. */
public final class DecisionTest {
    private static final int MIN = Integer.MIN_VALUE, MAX = Integer.MAX_VALUE;

    public static void main(String[] args) {
        codesAskWhenOnline();
        codesAskWhenNeverOnline();
        everyBitCounts();
        capDeclines();
        limitSendsOnline();
        runsAreTheLimitOrMore();
        limitIsForApprovalsAlone();
        onlyApprovalsCount();
        counterNeedsBothOctets();
        mixIsOfWhatItSays();
        octetsCarryWholeInts();
        Check.done();
    }

    /** A card without PLACE, WAYS and SIGN: 73 is found (1, 8 and 64), and 16 at 100 or more. */
    private static TapTerminal withCodes(int decline, int online, int offline, boolean ever) {
        TapTerminal t = Scene.withCard(16, Scene.rows(Scene.item(1, 255, 255), Scene.item(4, decline, online, offline)));
        t.terminal(1, 100, 4, ever, Scene.ISSUER);
        return t;
    }

    private static void dueType(String what, TapTerminal t, int due) {
        Check.due(what, t.run(50, 9, 200), due);
        Check.due(what + ", findings", t.told(2), 73);
        Check.due(what + ", asked for", t.told(3), due);
    }

    private static void codesAskWhenOnline() {
        dueType("no code", withCodes(0, 0, 0, true), TapTerminal.APPROVE);
        dueType("codes of other bits", withCodes(182, 182, 182, true), TapTerminal.APPROVE);
        dueType("the first", withCodes(1, 0, 0, true), TapTerminal.DECLINE);
        dueType("the first before the second", withCodes(64, 64, 0, true), TapTerminal.DECLINE);
        dueType("the second", withCodes(0, 8, 0, true), TapTerminal.ONLINE);
        dueType("the second and the third", withCodes(0, 8, 8, true), TapTerminal.ONLINE);
        dueType("the third", withCodes(0, 0, 255, true), TapTerminal.APPROVE);
    }

    private static void codesAskWhenNeverOnline() {
        dueType("never online: no code", withCodes(0, 0, 0, false), TapTerminal.APPROVE);
        dueType("never online: the first", withCodes(255, 0, 0, false), TapTerminal.DECLINE);
        dueType("never online: the second", withCodes(0, 1, 0, false), TapTerminal.APPROVE);
        dueType("never online: the second, the third of other bits", withCodes(0, 1, 182, false), TapTerminal.APPROVE);
        dueType("never online: the second and the third", withCodes(0, 1, 64, false), TapTerminal.DECLINE);
        dueType("never online: the third alone", withCodes(0, 0, 64, false), TapTerminal.APPROVE);
    }

    private static void everyBitCounts() {
        for (int bit = 1; bit <= 64; bit *= 2) {
            if (bit != 4) {
                TapTerminal t = withCodes(bit, 0, 0, true);
                Check.due("bit " + bit, t.run(100, 8, 65536), TapTerminal.DECLINE);
                t = withCodes(0, bit, 0, true);
                Check.due("bit " + bit + " of the second", t.run(100, 8, 65536), TapTerminal.ONLINE);
            }
        }
        Check.due("no finding has bit 128", withCodes(128, 128, 128, true).run(100, 8, 65536), TapTerminal.APPROVE);
    }

    private static void capDeclines() {
        TapTerminal t = withCodes(0, 16, 0, true);
        t.allow(0, 99, 255);
        Check.due("an approval at the cap", t.run(99, 9, 200), TapTerminal.APPROVE);
        Check.due("online above the cap", t.run(100, 9, 200), TapTerminal.DECLINE);
        Check.due("online was asked for", t.told(3), TapTerminal.ONLINE);
        Check.due("runs stay", t.look(0, 3), 1);
        t.allow(0, MIN, 0);
        Check.due("above the least cap and at the limit", t.run(MIN + 1, 9, 200), TapTerminal.DECLINE);
        Check.due("at the least cap and at the limit", t.run(MIN, 9, 200), TapTerminal.ONLINE);
        t.allow(0, MAX, 255);
        Check.due("at the greatest cap", t.run(MAX, 9, 200), TapTerminal.ONLINE);
    }

    private static void limitSendsOnline() {
        TapTerminal t = withCodes(0, 0, 0, false);
        t.allow(0, MAX, 2);
        int[] due = {2, 2, 1, 2, 2, 1};
        int[] runs = {1, 2, 0, 1, 2, 0};
        for (int i = 0; i < due.length; i++) {
            Check.due("run " + i, t.run(1, 9, 200), due[i]);
            Check.due("asked for in run " + i, t.told(3), TapTerminal.APPROVE);
            Check.due("runs behind run " + i, t.look(0, 3), runs[i]);
        }
    }

    /** "If RUNS is its LIMIT or more": one below, at, and one above three RUNS. */
    private static void runsAreTheLimitOrMore() {
        int[] due = {TapTerminal.ONLINE, TapTerminal.ONLINE, TapTerminal.APPROVE};
        for (int limit = 2; limit <= 4; limit++) {
            TapTerminal t = withCodes(0, 0, 0, true);
            for (int n = 0; n < 3; n++) {
                t.run(50, 9, 200);
            }
            t.allow(0, MAX, limit);
            Check.due("limit " + limit + " with 3 runs", t.run(50, 9, 200), due[limit - 2]);
            Check.due("runs with limit " + limit, t.look(0, 3), limit == 4 ? 4 : 0);
        }
    }

    private static void limitIsForApprovalsAlone() {
        TapTerminal t = withCodes(64, 0, 0, true);
        t.allow(0, MAX, 0);
        Check.due("a refusal at the limit", t.run(50, 9, 200), TapTerminal.DECLINE);
        t = withCodes(0, 0, 0, true);
        t.run(50, 9, 200);
        t.allow(0, 49, 0);
        Check.due("above the cap and at the limit", t.run(50, 9, 200), TapTerminal.DECLINE);
        Check.due("runs stay", t.look(0, 3), 1);
    }

    private static void onlyApprovalsCount() {
        TapTerminal t = withCodes(2, 16, 0, true);
        t.run(50, 9, 200);
        t.run(50, 9, 200);
        Check.due("two approvals", t.look(0, 3), 2);
        Check.due("a refusal", t.run(50, 9, 65536), TapTerminal.DECLINE);
        Check.due("a refusal changes nothing", t.look(0, 3), 2);
        Check.due("online", t.run(100, 9, 200), TapTerminal.ONLINE);
        Check.due("online begins again", t.look(0, 3), 0);
        Check.due("the counter counts all", t.look(0, 2), 4);
    }

    /** Within 512 calls the counter comes to 256 and more, but not round to 0. */
    private static void counterNeedsBothOctets() {
        TapTerminal t = withCodes(1, 0, 0, true);
        for (int n = 1; n <= 300; n++) {
            t.run(50, 9, 200);
            if (n >= 254 && n <= 258) {
                Check.due("the counter said at " + n, t.told(4), n);
            }
        }
        Check.due("the counter said", t.told(4), 300);
        Check.due("the card's", t.look(0, 2), 300);
        Check.due("its mix", t.told(5), Scene.mixOf(Scene.KEY, 0, 300, 50, 9, 73));
    }

    private static void mixIsOfWhatItSays() {
        TapTerminal t = withCodes(0, 0, 0, true);
        t.allow(0, 40, 255);
        t.run(50, 9, 200);
        Check.due("the mix of a refusal", t.told(5), Scene.mixOf(Scene.KEY, 0, 1, 50, 9, 73));
        t.allow(0, 50, 0);
        t.run(50, 9, 200);
        Check.due("the mix of online", t.told(5), Scene.mixOf(Scene.KEY, 1, 2, 50, 9, 73));
        t.allow(0, 50, 1);
        t.run(50, 9, 200);
        Check.due("the mix of an approval", t.told(5), Scene.mixOf(Scene.KEY, 2, 3, 50, 9, 73));
    }

    private static void octetsCarryWholeInts() {
        int[] ints = {MIN, MAX, -1, 0x81828384, 0x01020304};
        for (int size = 3; size <= 16; size++) {
            for (int x : ints) {
                TapTerminal t = Scene.withCard(size, Scene.rows(Scene.item(1, 255, 255), Scene.item(4, 0, 0, 0)));
                t.run(x, ~x, 200);
                int findings = 73 + (x >= 100 ? 16 : 0) + ((~x & 7) == 0 ? 32 : 0);
                Check.due("findings of " + x, t.told(2), findings);
                Check.due("the mix of " + x, t.told(5), Scene.mixOf(Scene.KEY, 2, 1, x, ~x, findings));
            }
        }
    }
}
