import java.util.Arrays;
import java.util.stream.IntStream;

/** Terminals, cards and records that several tests begin with, and readings of what a run did. */
final class Scene {
    static final int END = 1, PLACE = 2, WAYS = 3, CODES = 4, SIGN = 5;
    static final int ISSUER = 5;
    static final int KEY = 777;
    private static final String[] KINDS = {"?", "WAKE", "ASK", "SELECT", "OFF", "I", "ACK", "NAK"};

    private Scene() {
    }

    /** PLACE 1, FLOOR 100, way 2, online, APPLICATION 2; CARD 0 with ADDRESS 90 is in the FIELD, its RECORDS empty. */
    static TapTerminal withEmptyCard(int size) {
        TapTerminal t = new TapTerminal();
        t.terminal(1, 100, 4, true, ISSUER);
        t.takes(4);
        t.card(0, 90, 2, KEY, size);
        t.field(0, true);
        return t;
    }

    static TapTerminal withCard(int size, int[]... records) {
        TapTerminal t = withEmptyCard(size);
        writeRecords(t, 0, records);
        return t;
    }

    /** RECORD 0 has 13 OCTETS (END 300, PLACE 1, WAYS), RECORD 1 has 11 (CODES, SIGN); at 50 on day 200 nothing is found. */
    static TapTerminal withGoodCard(int size) {
        return withCard(size, goodFirst(), goodSecond());
    }

    /**
     * A run of the good card has 8 EXCHANGES; here it has one more for each WAKE (up to two) that is not heard, and three
     * more for each round in which COMMAND 1 and a NAK are not heard, and the next NAK is.
     */
    private static TapTerminal withRunOf(int wakes, int rounds) {
        TapTerminal t = withGoodCard(16);
        for (int n = 0; n < wakes; n++) {
            t.fault(n, 1);
        }
        for (int round = 0; round < rounds; round++) {
            t.fault(wakes + 3 + 3 * round, 1);
            t.fault(wakes + 4 + 3 * round, 1);
        }
        return t;
    }

    static TapTerminal withRunOf127() {
        return withRunOf(2, 39);
    }

    static TapTerminal withRunOf128() {
        return withRunOf(0, 40);
    }

    static TapTerminal withRunOf129() {
        return withRunOf(1, 40);
    }

    static int[] goodFirst() {
        return rows(item(END, 1, 44), item(PLACE, 1), item(WAYS, 130, 1, 0, 0));
    }

    static int[] goodSecond() {
        return rows(item(CODES, 2, 16, 1), item(SIGN, octets(mixOf(ISSUER, 1, 44, 1, 130, 1, 0, 0, 2, 16, 1))));
    }

    static void writeRecords(TapTerminal t, int c, int[]... records) {
        for (int r = 0; r < records.length; r++) {
            for (int octet : records[r]) {
                t.write(c, r, octet);
            }
        }
    }

    static int[] item(int tag, int... octets) {
        return rows(new int[] {tag, octets.length}, octets);
    }

    static int[] rows(int[]... rows) {
        return Arrays.stream(rows).flatMapToInt(Arrays::stream).toArray();
    }

    static int[] octets(int x) {
        return new int[] {x >>> 24, x >>> 16 & 255, x >>> 8 & 255, x & 255};
    }

    static int mixOf(int key, int... row) {
        return IntStream.of(row).reduce(key, (h, x) -> {
            int product = (h ^ x) * 16777619;
            return product ^ product >>> 15;
        });
    }

    /** The EXCHANGES of the latest run that can be asked for, a - behind those without an answer. */
    static String trace(TapTerminal t) {
        StringBuilder text = new StringBuilder();
        int kind = t.exchange(0, 0);
        for (int n = 0; kind != TapTerminal.REFUSED; kind = t.exchange(n, 0)) {
            text.append(n == 0 ? "" : " ").append(KINDS[kind]).append(t.exchange(n, 1));
            text.append(t.exchange(n, 2) == 1 ? "" : "-");
            n++;
        }
        return text.toString();
    }

    /** What told tells, 0 to 9. */
    static String told(TapTerminal t) {
        return Arrays.toString(IntStream.rangeClosed(0, 9).map(t::told).toArray());
    }

    /** What look tells of a CARD, 0 to 5. */
    static String look(TapTerminal t, int c) {
        return Arrays.toString(IntStream.rangeClosed(0, 5).map(what -> t.look(c, what)).toArray());
    }
}
