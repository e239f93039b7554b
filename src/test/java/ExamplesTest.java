/** The three examples at the end of the document's description. */
public final class ExamplesTest {
    private ExamplesTest() {
    }

    public static void main(String[] args) {
        counted();
        moving();
        marked();
        Due.finish();
    }

    private static void counted() {
        StructureEditor x = new StructureEditor();
        int[] letters = {110, 58, 117, 49, 59, 100, 58, 117, 49, 42, 110, 59};
        for (int i = 0; i < letters.length; i++) {
            Due.due("1: type(" + letters[i] + ")", x.type(letters[i]), i + 1);
        }
        Due.due("1: define(0)", x.define(0), 2);
        Due.due("1: insert(0,2,4)", x.insert(0, 2, 4), 4);
    }

    private static void moving() {
        StructureEditor x = new StructureEditor();
        int[] letters = {97, 58, 117, 50, 59};
        for (int i = 0; i < letters.length; i++) {
            Due.due("2: type(" + letters[i] + ")", x.type(letters[i]), i + 1);
        }
        Due.due("2: define(0)", x.define(0), 1);
        Due.due("2: insert(0,1,3)", x.insert(0, 1, 3), 3);
        Due.due("2: lay(0,0,1)", x.lay(0, 0, 1), 1);
        Due.due("2: value(0,0)", x.value(0, 0), 257);
        Due.due("2: setField(0,0,258L)", x.setField(0, 0, 258L), 1);
        Due.due("2: byteAt(2)", x.byteAt(2), 2);
        Due.due("2: setField(0,0,65536L)", x.setField(0, 0, 65536L), -1004);
        Due.due("2: undo()", x.undo(), 2);
        Due.due("2: insert(0,9,1)", x.insert(0, 9, 1), 4);
        Due.due("2: overlay(0,1)", x.overlay(0, 1), 2);
    }

    private static void marked() {
        StructureEditor x = new StructureEditor();
        Due.due("3: insert(0,18,3)", x.insert(0, 18, 3), 3);
        Due.due("3: mark()", x.mark(), 3);
        Due.due("3: overwrite(1,52)", x.overwrite(1, 52), 18);
        Due.due("3: difference(0)", x.difference(0), 1);
        Due.due("3: distance()", x.distance(), 1);
        Due.due("3: type(51)", x.type(51), 1);
        Due.due("3: type(52)", x.type(52), 2);
        Due.due("3: find(0)", x.find(0), 1);
        Due.due("3: delete(0,4)", x.delete(0, 4), -1001);
        Due.due("3: undo()", x.undo(), 1);
        Due.due("3: redo()", x.redo(), 0);
        Due.due("3: byteAt(1)", x.byteAt(1), 52);
    }
}
