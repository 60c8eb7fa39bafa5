/** Promise 9: what the terminal finds. */
public final class FindingsTest {
    private static final int MIN = Integer.MIN_VALUE, MAX = Integer.MAX_VALUE;
    private static final int[] GOOD_WAYS = {0, 0};

    public static void main(String[] args) {
        signIsTheMixOfWhatIsThere();
        signOfAnotherLengthIsNone();
        signOfNothingIsNone();
        signBelongsToTheIssuer();
        endIsLessThanTheDay();
        placeIsThatOfTheTerminal();
        floorIsReached();
        randomIsDrawn();
        placeAndWaysAreThere();
        waysGo();
        waysGoWhen();
        waysGoOnToTheNextPair();
        Check.done();
    }

    private static int findings(int amount, int random, int day, int[]... records) {
        TapTerminal t = Scene.withCard(16, records);
        t.run(amount, random, day);
        return t.told(2);
    }

    /** Items with a SIGN, END 300 and CODES without a bit; null stands for those that are not there. */
    private static int[][] signed(int[] end, int[] place, int[] ways) {
        int[] codes = {0, 0, 0};
        int[] placeOctets = place == null ? new int[0] : place;
        int[] wayOctets = ways == null ? new int[0] : ways;
        int sign = Scene.mixOf(Scene.ISSUER, Scene.rows(end, placeOctets, wayOctets, codes));
        int[] placeItem = place == null ? new int[0] : Scene.item(Scene.PLACE, place);
        int[] wayItem = ways == null ? new int[0] : Scene.item(Scene.WAYS, ways);
        return new int[][] {Scene.rows(Scene.item(Scene.END, end), Scene.item(Scene.CODES, codes), placeItem), wayItem,
            Scene.item(Scene.SIGN, Scene.octets(sign))};
    }

    private static int[][] good() {
        return signed(new int[] {1, 44}, new int[] {1}, GOOD_WAYS);
    }

    private static void signIsTheMixOfWhatIsThere() {
        Check.due("all are there", findings(50, 9, 200, good()), 0);
        Check.due("without a place", findings(50, 9, 200, signed(new int[] {1, 44}, null, GOOD_WAYS)), 64);
        Check.due("without ways", findings(50, 9, 200, signed(new int[] {1, 44}, new int[] {1}, null)), 64 + 8);
        int[][] wrong = good();
        wrong[2][5] ^= 1;
        Check.due("another sign in its last bit", findings(50, 9, 200, wrong), 1);
        wrong = good();
        wrong[2][2] ^= 128;
        Check.due("another sign in its first bit", findings(50, 9, 200, wrong), 1);
        wrong = good();
        wrong[0][3] ^= 1;
        Check.due("another end", findings(50, 9, 200, wrong), 1);
        wrong = good();
        wrong[0][8] = 64;
        Check.due("other codes", findings(50, 9, 200, wrong), 1);
        int[][] items = good();
        Check.due("items in another order", findings(50, 9, 200, items[2], items[1], items[0]), 0);
    }

    private static void signOfAnotherLengthIsNone() {
        int[][] items = good();
        items[2] = Scene.rows(Scene.item(Scene.SIGN, 0, 0, 0), items[2]);
        Check.due("a first sign of 3 octets", findings(50, 9, 200, items), 1);
        items[2] = new int[0];
        Check.due("no sign", findings(50, 9, 200, items), 1);
        int[][] place = good();
        place[0] = Scene.rows(Scene.item(Scene.PLACE, 1, 1), place[0]);
        Check.due("a first place of 2 octets", findings(50, 9, 200, place), 64 + 1);
        int[][] ways = good();
        ways[1] = Scene.rows(Scene.item(Scene.WAYS, 0, 0, 0), ways[1]);
        Check.due("first ways of 3 octets", findings(50, 9, 200, ways), 64 + 8 + 1);
    }

    /** With this issuer's key the MIX is 0; a SIGN that is not there is not 0. */
    private static void signOfNothingIsNone() {
        int issuer = 920373925;
        int[] items = Scene.rows(Scene.item(Scene.END, 1, 44), Scene.item(Scene.CODES, 0, 0, 0));
        Check.due("the mix", Scene.mixOf(issuer, 1, 44, 0, 0, 0), 0);
        for (int length = 0; length <= 5; length++) {
            TapTerminal t = Scene.withCard(16, items, Scene.item(Scene.SIGN, new int[length]));
            t.terminal(1, 100, 4, true, issuer);
            t.run(50, 9, 200);
            Check.due("a sign of " + length + " times 0", t.told(2) & 1, length == 4 ? 0 : 1);
        }
        TapTerminal t = Scene.withCard(16, items);
        t.terminal(1, 100, 4, true, issuer);
        t.run(50, 9, 200);
        Check.due("no sign", t.told(2) & 1, 1);
    }

    private static void signBelongsToTheIssuer() {
        TapTerminal t = Scene.withCard(16, good());
        t.terminal(1, 100, 4, true, Scene.ISSUER + 1);
        t.run(50, 9, 200);
        Check.due("another issuer", t.told(2), 1);
    }

    private static void endIsLessThanTheDay() {
        Check.due("at the end", findings(50, 9, 300, good()), 0);
        Check.due("behind the end", findings(50, 9, 301, good()), 2);
        Check.due("the least day", findings(50, 9, MIN, good()), 0);
        Check.due("the greatest day", findings(50, 9, MAX, good()), 2);
        int[][] first = signed(new int[] {0, 0}, new int[] {1}, GOOD_WAYS);
        Check.due("before the first end", findings(50, 9, -1, first), 0);
        Check.due("at the first end", findings(50, 9, 0, first), 0);
        Check.due("behind the first end", findings(50, 9, 1, first), 2);
        int[][] carried = signed(new int[] {1, 0}, new int[] {1}, GOOD_WAYS);
        Check.due("before an end of 256", findings(50, 9, 255, carried), 0);
        Check.due("at an end of 256", findings(50, 9, 256, carried), 0);
        Check.due("behind an end of 256", findings(50, 9, 257, carried), 2);
        int[][] last = signed(new int[] {255, 255}, new int[] {1}, GOOD_WAYS);
        Check.due("at the last end", findings(50, 9, 65535, last), 0);
        Check.due("behind the last end", findings(50, 9, 65536, last), 2);
    }

    private static void placeIsThatOfTheTerminal() {
        Check.due("one below", findings(50, 9, 200, signed(new int[] {1, 44}, new int[] {0}, GOOD_WAYS)), 4);
        Check.due("one above", findings(50, 9, 200, signed(new int[] {1, 44}, new int[] {2}, GOOD_WAYS)), 4);
        TapTerminal t = Scene.withCard(16, signed(new int[] {1, 44}, new int[] {255}, GOOD_WAYS));
        t.terminal(255, 100, 4, true, Scene.ISSUER);
        t.run(50, 9, 200);
        Check.due("the same place", t.told(2), 0);
    }

    private static void floorIsReached() {
        Check.due("one below the floor", findings(99, 9, 200, good()), 0);
        Check.due("at the floor", findings(100, 9, 200, good()), 16);
        Check.due("one above the floor", findings(101, 9, 200, good()), 16);
        Check.due("the greatest amount", findings(MAX, 9, 200, good()), 16);
        Check.due("the least amount", findings(MIN, 9, 200, good()), 0);
        TapTerminal t = Scene.withCard(16, good());
        t.terminal(1, MIN, 4, true, Scene.ISSUER);
        t.run(MIN, 9, 200);
        Check.due("the least floor", t.told(2), 16);
    }

    private static void randomIsDrawn() {
        for (int random = 1; random < 8; random++) {
            Check.due("random " + random, findings(50, random, 200, good()), 0);
        }
        Check.due("the greatest random", findings(50, MAX, 200, good()), 0);
        Check.due("random 0", findings(50, 0, 200, good()), 32);
        Check.due("random 8", findings(50, 8, 200, good()), 32);
        Check.due("random -8", findings(50, -8, 200, good()), 32);
        Check.due("random -1", findings(50, -1, 200, good()), 0);
        Check.due("the least random", findings(50, MIN, 200, good()), 32);
    }

    private static void placeAndWaysAreThere() {
        Check.due("neither", findings(50, 9, 200, signed(new int[] {1, 44}, null, null)), 64 + 8);
        Check.due("ways without a pair are there", findings(50, 9, 200, signed(new int[] {1, 44}, new int[] {1}, new int[0])), 8);
        Check.due("all findings but that of another place",
                findings(100, 0, 301, Scene.rows(Scene.item(1, 1, 44), Scene.item(4, 0, 0, 0))), 127 - 4);
    }

    /** Whether a way goes, with the ways 1, 2 and 7 and a FLOOR of 100. */
    private static void dueWay(String what, boolean due, int amount, int... ways) {
        TapTerminal t = Scene.withCard(16, signed(new int[] {1, 44}, new int[] {1}, ways));
        t.terminal(1, 100, 2 + 4 + 128, true, Scene.ISSUER);
        t.run(amount, 9, 200);
        Check.due(what, (t.told(2) & 8) == 0, due);
        Check.due(what + ", other findings", t.told(2) & ~8, amount >= 100 ? 16 : 0);
    }

    private static void waysGo() {
        dueWay("way 0", true, 50, 0, 0);
        dueWay("way 1", true, 50, 1, 0);
        dueWay("way 2", true, 50, 2, 0);
        dueWay("way 3", false, 50, 3, 0);
        dueWay("way 6", false, 50, 6, 0);
        dueWay("way 7", true, 50, 7, 0);
        dueWay("way 8", false, 50, 8, 0);
        dueWay("way 33", false, 50, 33, 0);
        dueWay("way 127", false, 50, 127, 0);
        dueWay("way 128", true, 50, 128, 0);
        dueWay("way 129", true, 50, 129, 0);
        dueWay("way 131", false, 50, 131, 0);
        dueWay("way 255", false, 50, 255, 0);
    }

    private static void waysGoWhen() {
        dueWay("when 1 below the floor", false, 99, 0, 1);
        dueWay("when 1 at the floor", true, 100, 0, 1);
        dueWay("when 1 above the floor", true, 101, 0, 1);
        dueWay("when 2 below the floor", true, 99, 0, 2);
        dueWay("when 2 at the floor", false, 100, 0, 2);
        dueWay("when 2 above the floor", false, 101, 0, 2);
        dueWay("when 0 below the floor", true, 99, 0, 0);
        dueWay("when 0 at the floor", true, 100, 0, 0);
        dueWay("when 0 above the floor", true, 101, 0, 0);
        dueWay("when 3", false, 50, 0, 3);
        dueWay("when 3 at the floor", false, 100, 0, 3);
        dueWay("when 128", false, 50, 0, 128);
        dueWay("when 255", false, 50, 0, 255);
    }

    private static void waysGoOnToTheNextPair() {
        dueWay("never, then a way that goes", true, 50, 3, 9, 1, 0);
        dueWay("not now, then a way that goes", true, 50, 3, 1, 1, 2);
        dueWay("one that does not go ends it", false, 50, 3, 0, 0, 0);
        dueWay("127 ends it", false, 50, 127, 0, 0, 0);
        dueWay("128 and more go on", true, 50, 131, 0, 255, 0, 2, 0);
        dueWay("128 and more go on to none", false, 50, 131, 0, 132, 0);
        dueWay("the last of many", true, 50, 131, 0, 132, 0, 133, 0, 134, 0, 135, 1, 136, 0, 137, 0, 7, 0);
    }
}
