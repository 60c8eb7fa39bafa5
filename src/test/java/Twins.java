import java.util.Arrays;
import java.util.function.Predicate;
import java.util.function.ToIntFunction;

/**
 * Two terminals alike: one of them gets a call that must change nothing, then both are asked and run in the same way.
 * So a change is seen that no answer tells by itself (a KEY, a SIZE, the OCTETS of a RECORD, the terminal's settings).
 */
final class Twins {
    private Twins() {
    }

    static void sayFalse(String what, Predicate<TapTerminal> call) {
        say(what, t -> call.test(t) ? 1 : 0, 0);
    }

    static void sayRefused(String what, ToIntFunction<TapTerminal> call) {
        say(what, call, TapTerminal.REFUSED);
    }

    static void say(String what, ToIntFunction<TapTerminal> call, int due) {
        TapTerminal called = inUse();
        TapTerminal left = inUse();
        Check.due(what, call.applyAsInt(called), due);
        Check.due("behind " + what, probe(called), probe(left));
    }

    /**
     * PLACE 1, FLOOR 100, way 2, online, APPLICATION 2, two FAULTS. CARD 0 (ADDRESS 90) has a CAP of 120, a LIMIT of 2 and
     * a full RECORD 2; CARD 1 (80) is put off first; CARD 2 has the ADDRESS of CARD 0 and is out; there is no CARD 3. One
     * run is behind them, which approved.
     */
    private static TapTerminal inUse() {
        TapTerminal t = new TapTerminal();
        t.terminal(1, 100, 4, true, Scene.ISSUER);
        t.takes(4);
        t.card(0, 90, 2, Scene.KEY, 8);
        t.card(1, 80, 1, 5, 3);
        t.card(2, 90, 2, 6, 4);
        Scene.writeRecords(t, 0, Scene.rows(Scene.item(Scene.END, 1, 44), Scene.item(Scene.PLACE, 1)),
                Scene.rows(Scene.item(Scene.WAYS, 2, 0), Scene.item(Scene.CODES, 2, 16, 16)), fullRecord());
        t.allow(0, 120, 2);
        t.field(0, true);
        t.field(1, true);
        t.fault(4, 2);
        t.fault(127, 1);
        t.run(50, 9, 200);
        return t;
    }

    /** Its last four OCTETS are the SIGN, and its first item would not be whole if it were taken apart. */
    private static int[] fullRecord() {
        int[] filler = new int[16];
        Arrays.fill(filler, 255);
        int sign = Scene.mixOf(Scene.ISSUER, 1, 44, 1, 2, 0, 2, 16, 16);
        return Scene.rows(Scene.item(9, filler), Scene.item(Scene.SIGN, Scene.octets(sign)));
    }

    private static String probe(TapTerminal t) {
        StringBuilder text = new StringBuilder();
        text.append(seen(t));
        text.append(t.run(50, 9, 200)).append(' ').append(seen(t));
        int[][] runs = {{50, 9, 200}, {100, 8, 200}, {120, 9, 300}, {121, 9, 200}, {50, 9, 301}};
        for (int[] run : runs) {
            text.append(t.run(run[0], run[1], run[2])).append(' ').append(Scene.told(t)).append('\n');
        }
        for (int n : new int[] {0, 4, 5, 126, 127}) {
            text.append(" fault ").append(t.fault(n, 0));
        }
        for (int c = 0; c < 4; c++) {
            for (int r = 0; r < 3; r++) {
                text.append(" written ").append(t.write(c, r, 1));
            }
            text.append(" in ").append(t.field(c, true));
        }
        return text.toString();
    }

    private static String seen(TapTerminal t) {
        StringBuilder text = new StringBuilder(Scene.told(t));
        for (int c = 0; c < 4; c++) {
            text.append(' ').append(Scene.look(t, c));
        }
        return text.append('\n').append(Scene.trace(t)).append('\n').toString();
    }
}
