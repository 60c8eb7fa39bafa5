/** Promise 9: how records are taken apart. */
public final class RecordsTest {
    private static final int[] END = Scene.item(Scene.END, 1, 44);
    private static final int[] CODES = Scene.item(Scene.CODES, 0, 0, 0);

    public static void main(String[] args) {
        endAndCodesMustBeThere();
        lengthsMustFit();
        itemsMustBeWhole();
        itemsAreFourLevelsDeep();
        theFirstOneCounts();
        otherTagsDoNotCount();
        allAreReadBeforeItEnds();
        theCardOfTheRunBeforeIsForgotten();
        Check.done();
    }

    private static void dueEnding(String what, int ending, int[]... records) {
        Check.due(what, Scene.withCard(16, records).run(50, 9, 200), ending);
    }

    private static void ends(String what, int[]... records) {
        dueEnding(what, TapTerminal.ENDED, records);
    }

    private static void goes(String what, int[]... records) {
        dueEnding(what, TapTerminal.APPROVE, records);
    }

    private static int[] inside(int tag, int[]... rows) {
        return Scene.item(tag, Scene.rows(rows));
    }

    private static void endAndCodesMustBeThere() {
        goes("both in one record", Scene.rows(END, CODES));
        goes("both in two records", CODES, END);
        goes("both in far records", END, new int[0], CODES);
        ends("no end", CODES);
        ends("no codes", END);
        ends("nothing");
    }

    private static void lengthsMustFit() {
        ends("end of 1", Scene.item(1, 1), CODES);
        ends("end of 3", Scene.item(1, 1, 1, 1), CODES);
        ends("end of 0", Scene.item(1), CODES);
        ends("codes of 2", END, Scene.item(4, 0, 0));
        ends("codes of 4", END, Scene.item(4, 0, 0, 0, 0));
    }

    private static void itemsMustBeWhole() {
        ends("a tag alone", END, CODES, new int[] {9});
        ends("a tag alone behind another item", Scene.rows(END, CODES, new int[] {9}));
        ends("an octet is missing", END, CODES, new int[] {9, 2, 0});
        ends("all octets are missing", END, CODES, new int[] {9, 255});
        ends("inside, longer than what it is in", Scene.rows(END, CODES, Scene.item(128, 9, 2, 0), Scene.item(9)));
        ends("inside, a tag alone", Scene.rows(END, CODES, Scene.item(128, 9), Scene.item(9)));
        goes("whole ones", Scene.rows(END, CODES, Scene.item(9, 0, 0), Scene.item(10)));
        goes("whole ones inside", Scene.rows(END, CODES, Scene.item(128, 9, 1, 0), Scene.item(9)));
        goes("a plain tag is not taken apart", Scene.rows(END, CODES, Scene.item(127, 9)));
        goes("a full record", Scene.rows(END, CODES, Scene.item(9, new int[13])));
    }

    private static void itemsAreFourLevelsDeep() {
        goes("the fourth level", inside(129, inside(255, inside(128, END))), CODES);
        ends("a fifth level", inside(129, inside(255, inside(128, inside(200, END)))), CODES);
        ends("an empty one above 127 at the fourth level", inside(129, inside(130, inside(131, inside(132)))),
                Scene.rows(END, CODES));
        goes("an empty one above 127 at the third level", inside(129, inside(130, inside(131))),
                Scene.rows(END, CODES));
        goes("several levels side by side", Scene.rows(inside(129, inside(130, END), inside(131, inside(132, CODES)))));
    }

    private static void theFirstOneCounts() {
        TapTerminal t = Scene.withCard(16, END, Scene.rows(Scene.item(1, 0, 1), CODES));
        t.run(50, 9, 200);
        Check.due("the least record", t.told(2) & 2, 0);
        t = Scene.withCard(16, Scene.rows(Scene.item(1, 0, 1), END, CODES));
        t.run(50, 9, 200);
        Check.due("the first in a record", t.told(2) & 2, 2);
        t = Scene.withCard(16, Scene.rows(inside(200, inside(201, Scene.item(1, 0, 1))), END, CODES));
        t.run(50, 9, 200);
        Check.due("the first one inside others", t.told(2) & 2, 2);
        t = Scene.withCard(16, Scene.rows(END, inside(200, Scene.item(1, 0, 1)), CODES));
        t.run(50, 9, 200);
        Check.due("the first one before those inside others", t.told(2) & 2, 0);
        ends("a first one of another length", Scene.rows(Scene.item(1, 1), END, CODES));
        ends("a first one of another length in a lesser record", inside(128, Scene.item(4)), Scene.rows(END, CODES));
    }

    private static void otherTagsDoNotCount() {
        goes("tags 0, 6, 7 and 127", Scene.rows(Scene.item(0, 1), Scene.item(6), Scene.item(7, 1), Scene.item(127, 1)),
                END, CODES);
        goes("tags 129 and 132 are not 1 and 4", Scene.rows(Scene.item(129), Scene.item(132)), END, CODES);
    }

    private static void allAreReadBeforeItEnds() {
        TapTerminal t = Scene.withCard(16, new int[] {9}, END, CODES);
        Check.due("run", t.run(50, 9, 200), TapTerminal.ENDED);
        Check.due("told", Scene.told(t), "[5, 0, 0, -1, 0, 0, 8, 0, 1, 3]");
        Check.due("the card was not asked to decide", Scene.look(t, 0), "[1, 90, 0, 0, 5, 3]");
    }

    private static void theCardOfTheRunBeforeIsForgotten() {
        TapTerminal t = Scene.withGoodCard(16);
        t.run(50, 9, 200);
        Check.due("a card with all items", t.told(2), 0);
        t.card(0, 90, 2, Scene.KEY, 16);
        t.field(0, true);
        int sign = Scene.mixOf(Scene.ISSUER, 1, 44, 0, 0, 0);
        Scene.writeRecords(t, 0, Scene.rows(END, CODES), Scene.item(Scene.SIGN, Scene.octets(sign)));
        t.run(50, 9, 200);
        Check.due("a card with a sign of its own", t.told(2), 64 + 8);
        t.card(0, 90, 2, Scene.KEY, 16);
        t.field(0, true);
        Check.due("a card without items", t.run(50, 9, 200), TapTerminal.ENDED);
        Scene.writeRecords(t, 0, Scene.rows(END, CODES));
        t.run(50, 9, 200);
        Check.due("a card without place, ways and sign", t.told(2), 64 + 8 + 1);
        t.write(0, 1, 9);
        Check.due("a card with an item that is not whole", t.run(50, 9, 200), TapTerminal.ENDED);
        t.write(0, 1, 0);
        Check.due("the item is whole", t.run(50, 9, 200), TapTerminal.APPROVE);
    }
}
