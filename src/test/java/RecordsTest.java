import java.util.Arrays;

/** Promise 9: how records are taken apart. */
public final class RecordsTest {
    private static final int[] END = Scene.item(Scene.END, 1, 44);
    private static final int[] CODES = Scene.item(Scene.CODES, 0, 0, 0);

    public static void main(String[] args) {
        endAndCodesMustBeThere();
        lengthsOfEnd();
        lengthsOfPlace();
        lengthsOfWays();
        lengthsOfCodes();
        lengthsOfSign();
        itemsOfAnotherLengthAreNotSigned();
        itemsMustBeWhole();
        itemsMustBeWholeAtEachLevel();
        itemsAreFourLevelsDeep();
        tagsAbove127AreTakenApart();
        emptyRowsHaveNoItems();
        theFirstOneCounts();
        otherTagsDoNotCount();
        allAreReadBeforeItEnds();
        aRunThatIsLostDoesNotEnd();
        theCardOfTheRunBeforeIsForgotten();
        Check.done();
    }

    private static void dueEnding(String what, int ending, int[]... records) {
        Check.due(what, Scene.withCard(16, records).run(50, 9, 200), ending);
    }

    private static void ends(String what, int[]... records) {
        dueEnding(what, TapTerminal.ENDED, records);
    }

    private static void goes(String what, int[]... records) {
        dueEnding(what, TapTerminal.APPROVE, records);
    }

    private static int[] inside(int tag, int[]... rows) {
        return Scene.item(tag, Scene.rows(rows));
    }

    private static void endAndCodesMustBeThere() {
        goes("both in one record", Scene.rows(END, CODES));
        goes("both in two records", CODES, END);
        goes("both in far records", END, new int[0], CODES);
        ends("no end", CODES);
        ends("no codes", END);
        ends("nothing");
    }

    private static int findings(int[]... records) {
        TapTerminal t = Scene.withCard(16, records);
        t.run(50, 9, 200);
        return t.told(2);
    }

    /** "If that one has another length there is none": END of 0 to 4 OCTETS. */
    private static void lengthsOfEnd() {
        for (int length = 0; length <= 4; length++) {
            int[] end = Scene.item(Scene.END, new int[length]);
            dueEnding("end of " + length, length == 2 ? TapTerminal.APPROVE : TapTerminal.ENDED, end, CODES);
        }
    }

    /** 64 is found if there is no PLACE, and 4 if there is one and it is another one. */
    private static void lengthsOfPlace() {
        for (int length = 0; length <= 3; length++) {
            int[] place = Scene.item(Scene.PLACE, new int[length]);
            int found = findings(Scene.rows(END, CODES), Scene.item(Scene.WAYS, 0, 0), place);
            Check.due("place of " + length, found, 1 + (length == 1 ? 4 : 64));
        }
    }

    /** "(3: an odd one)": WAYS of 0 to 22 OCTETS, of which the first pair goes. */
    private static void lengthsOfWays() {
        for (int length = 0; length <= 22; length++) {
            int[] ways = Scene.item(Scene.WAYS, new int[length]);
            int found = findings(Scene.rows(END, CODES), Scene.item(Scene.PLACE, 1), ways);
            int due = length % 2 == 1 ? 1 + 64 + 8 : length == 0 ? 1 + 8 : 1;
            Check.due("ways of " + length, found, due);
        }
    }

    private static void lengthsOfCodes() {
        for (int length = 0; length <= 5; length++) {
            int[] codes = Scene.item(Scene.CODES, new int[length]);
            dueEnding("codes of " + length, length == 3 ? TapTerminal.APPROVE : TapTerminal.ENDED, END, codes);
        }
    }

    /** The right SIGN without its last OCTETS, as it is, and with OCTETS behind it. */
    private static void lengthsOfSign() {
        int[] right = Scene.octets(Scene.mixOf(Scene.ISSUER, 1, 44, 0, 0, 0));
        for (int length = 0; length <= 6; length++) {
            int[] sign = Scene.item(Scene.SIGN, Arrays.copyOf(right, length));
            Check.due("sign of " + length, findings(END, CODES, sign) & 1, length == 4 ? 0 : 1);
        }
    }

    /** "(Those that are there)": one of another length is not, and so not in the MIX. */
    private static void itemsOfAnotherLengthAreNotSigned() {
        int[] sign = Scene.item(Scene.SIGN, Scene.octets(Scene.mixOf(Scene.ISSUER, 1, 44, 0, 0, 0)));
        Check.due("place of 2", findings(END, Scene.rows(CODES, sign), Scene.item(Scene.PLACE, 1, 1)), 64 + 8);
        Check.due("ways of 1", findings(END, Scene.rows(CODES, sign), Scene.item(Scene.WAYS, 1)), 64 + 8);
        Check.due("ways of 0", findings(END, Scene.rows(CODES, sign), Scene.item(Scene.WAYS)), 64 + 8);
    }

    private static void itemsMustBeWhole() {
        ends("a tag alone", END, CODES, new int[] {9});
        ends("a tag alone behind another item", Scene.rows(END, CODES, new int[] {9}));
        ends("an octet is missing", END, CODES, new int[] {9, 2, 0});
        ends("all octets are missing", END, CODES, new int[] {9, 255});
        ends("inside, longer than what it is in", Scene.rows(END, CODES, Scene.item(128, 9, 2, 0), Scene.item(9)));
        ends("inside, a tag alone", Scene.rows(END, CODES, Scene.item(128, 9), Scene.item(9)));
        goes("whole ones", Scene.rows(END, CODES, Scene.item(9, 0, 0), Scene.item(10)));
        goes("whole ones inside", Scene.rows(END, CODES, Scene.item(128, 9, 1, 0), Scene.item(9)));
        goes("a plain tag is not taken apart", Scene.rows(END, CODES, Scene.item(127, 9)));
        goes("a full record", Scene.rows(END, CODES, Scene.item(9, new int[13])));
    }

    /** The row that is taken apart at a level, an OCTET less, as it is, and an OCTET more than it says. */
    private static void itemsMustBeWholeAtEachLevel() {
        for (int level = 1; level <= 4; level++) {
            for (int length = 0; length <= 3; length++) {
                int[] row = {9, length, 0, 0};
                for (int depth = level; depth > 1; depth--) {
                    row = inside(128, row);
                }
                boolean whole = length == 0 || length == 2;
                dueEnding("length " + length + " of 2 at level " + level,
                        whole ? TapTerminal.APPROVE : TapTerminal.ENDED, row, Scene.rows(END, CODES));
            }
        }
    }

    private static void itemsAreFourLevelsDeep() {
        goes("the fourth level", inside(129, inside(255, inside(128, END))), CODES);
        ends("a fifth level", inside(129, inside(255, inside(128, inside(200, END)))), CODES);
        ends("an empty one above 127 at the fourth level", inside(129, inside(130, inside(131, inside(132)))),
                Scene.rows(END, CODES));
        goes("an empty one above 127 at the third level", inside(129, inside(130, inside(131))),
                Scene.rows(END, CODES));
        goes("several levels side by side", Scene.rows(inside(129, inside(130, END), inside(131, inside(132, CODES)))));
    }

    /** The OCTETS 9, 2 are an item that is not whole, if they are taken apart. */
    private static void tagsAbove127AreTakenApart() {
        for (int tag : new int[] {0, 6, 126, 127}) {
            goes("tag " + tag, Scene.item(tag, 9, 2), Scene.rows(END, CODES));
            ends("end in tag " + tag, inside(tag, END), CODES);
        }
        for (int tag : new int[] {128, 129, 254, 255}) {
            ends("tag " + tag, Scene.item(tag, 9, 2), Scene.rows(END, CODES));
            goes("end in tag " + tag, inside(tag, END), CODES);
        }
    }

    private static void emptyRowsHaveNoItems() {
        goes("empty records", new int[0], new int[0], Scene.rows(END, CODES));
        for (int tag : new int[] {128, 255}) {
            goes("empty at the first level", inside(tag), Scene.rows(END, CODES));
            goes("empty at the second level", inside(200, inside(tag)), Scene.rows(END, CODES));
            goes("empty at the third level", inside(200, inside(201, inside(tag))), Scene.rows(END, CODES));
        }
        goes("an empty plain one at the fourth level", inside(200, inside(201, inside(202, inside(127)))),
                Scene.rows(END, CODES));
    }

    private static void theFirstOneCounts() {
        TapTerminal t = Scene.withCard(16, END, Scene.rows(Scene.item(1, 0, 1), CODES));
        t.run(50, 9, 200);
        Check.due("the least record", t.told(2) & 2, 0);
        t = Scene.withCard(16, Scene.rows(Scene.item(1, 0, 1), END, CODES));
        t.run(50, 9, 200);
        Check.due("the first in a record", t.told(2) & 2, 2);
        t = Scene.withCard(16, Scene.rows(inside(200, inside(201, Scene.item(1, 0, 1))), END, CODES));
        t.run(50, 9, 200);
        Check.due("the first one inside others", t.told(2) & 2, 2);
        t = Scene.withCard(16, Scene.rows(END, inside(200, Scene.item(1, 0, 1)), CODES));
        t.run(50, 9, 200);
        Check.due("the first one before those inside others", t.told(2) & 2, 0);
        ends("a first one of another length", Scene.rows(Scene.item(1, 1), END, CODES));
        ends("a first one of another length in a lesser record", inside(128, Scene.item(4)), Scene.rows(END, CODES));
    }

    private static void otherTagsDoNotCount() {
        ends("tags 0 and 2 are not end", Scene.rows(Scene.item(0, 1, 44), Scene.item(2, 1, 44)), CODES);
        ends("tags 3 and 5 are not codes", END, Scene.rows(Scene.item(3, 0, 0, 0), Scene.item(5, 0, 0, 0)));
        goes("tags 0, 6, 7 and 127", Scene.rows(Scene.item(0, 1), Scene.item(6), Scene.item(7, 1), Scene.item(127, 1)),
                END, CODES);
        goes("tags 129 and 132 are not 1 and 4", Scene.rows(Scene.item(129), Scene.item(132)), END, CODES);
    }

    private static void allAreReadBeforeItEnds() {
        TapTerminal t = Scene.withCard(16, new int[] {9}, END, CODES);
        Check.due("run", t.run(50, 9, 200), TapTerminal.ENDED);
        Check.due("told", Scene.told(t), "[5, 0, 0, -1, 0, 0, 8, 0, 1, 3]");
        Check.due("the card was not asked to decide", Scene.look(t, 0), "[1, 90, 0, 0, 5, 3]");
    }

    /** "The run ENDS when all are read": it is LOST if they cannot be. */
    private static void aRunThatIsLostDoesNotEnd() {
        TapTerminal t = Scene.withCard(16, new int[] {9}, END, CODES);
        for (int n = 7; n <= 9; n++) {
            t.fault(n, 1);
        }
        Check.due("run", t.run(50, 9, 200), TapTerminal.LOST);
        Check.due("records read", t.told(9), 2);
    }

    private static void theCardOfTheRunBeforeIsForgotten() {
        TapTerminal t = Scene.withGoodCard(16);
        t.run(50, 9, 200);
        Check.due("a card with all items", t.told(2), 0);
        t.card(0, 90, 2, Scene.KEY, 16);
        t.field(0, true);
        int sign = Scene.mixOf(Scene.ISSUER, 1, 44, 0, 0, 0);
        Scene.writeRecords(t, 0, Scene.rows(END, CODES), Scene.item(Scene.SIGN, Scene.octets(sign)));
        t.run(50, 9, 200);
        Check.due("a card with a sign of its own", t.told(2), 64 + 8);
        t.card(0, 90, 2, Scene.KEY, 16);
        t.field(0, true);
        Check.due("a card without items", t.run(50, 9, 200), TapTerminal.ENDED);
        Scene.writeRecords(t, 0, Scene.rows(END, CODES));
        t.run(50, 9, 200);
        Check.due("a card without place, ways and sign", t.told(2), 64 + 8 + 1);
        t.write(0, 1, 9);
        Check.due("a card with an item that is not whole", t.run(50, 9, 200), TapTerminal.ENDED);
        t.write(0, 1, 0);
        Check.due("the item is whole", t.run(50, 9, 200), TapTerminal.APPROVE);
    }
}
