/** The boundary cases of the buffer and the clipboard: promises 1 and 10 to 17 and what the description says of them. */
public final class BufferBoundsTest {
    private static final int BAD = -1001, STATE = -1002, FULL = -1003, NONE = -1009;
    private static final int MIN = Integer.MIN_VALUE, MAX = Integer.MAX_VALUE;

    private BufferBoundsTest() {
    }

    public static void main(String[] args) {
        emptyAtFirst();
        lengths();
        bytesThatExist();
        insertPlaces();
        insertValues();
        insertNumbers();
        insertFull();
        deletePlaces();
        deleteNumbers();
        overwriteBounds();
        copyPlaces();
        copyNumbers();
        copyOfNothing();
        clipboardIsACopy();
        pastePlaces();
        pasteOfNothing();
        pasteFull();
        pasteOverPlaces();
        pasteOverOfNothing();
        pasteOverFull();
        overlaysAtTheInsertedPlace();
        overlaysAtTheDeletedPlace();
        Due.finish();
    }

    /** The rich object has 12 bytes, and 3 in its clipboard. */
    private static void refused(String name, Refusal.Call call, long want) {
        Refusal.refused(name, Refusal::rich, call, want);
        Refusal.refused(name + ", following", Refusal::richAndFollowing, call, want);
    }

    private static StructureEditor filled(int length) {
        StructureEditor x = new StructureEditor();
        fill(x, length);
        return x;
    }

    /** Bytes that differ, so that a wrong place shows. */
    private static void fill(StructureEditor x, int length) {
        for (int i = 0; i < length; i++) {
            x.insert(i, i, 1);
        }
        Due.due("filled", x.length(), length);
    }

    /** "Creates an editor with an empty buffer, without overlays, with following switched off." */
    private static void emptyAtFirst() {
        StructureEditor x = new StructureEditor();
        Due.due("length()", x.length(), 0);
        Due.due("byteAt(0)", x.byteAt(0), BAD);
        Due.due("clipboard", x.count(4), 0);
        Due.due("mark", x.count(5), 0);
        Due.due("text", x.count(6), 0);
        Due.due("following", x.count(7), 0);
        Due.due("difference(0)", x.difference(0), NONE);
        Due.due("distance()", x.distance(), 0);
        for (int overlay = 0; overlay < 4; overlay++) {
            Due.due("overlay(" + overlay + ",0)", x.overlay(overlay, 0), BAD);
        }
        // one object's bytes are not another's
        x.insert(0, 1, 1);
        Due.due("length() of another object", new StructureEditor().length(), 0);
    }

    /** "The buffer has 0 to 200 bytes": length() at both ends. */
    private static void lengths() {
        StructureEditor x = filled(200);
        Due.due("length() of 200", x.length(), 200);
        Due.due("delete of all", x.delete(0, 200), 0);
        Due.due("length() of none", x.length(), 0);
    }

    /** "with values from 0 to 255, at the positions from 0 on"; byteAt() is BAD where there is no byte. */
    private static void bytesThatExist() {
        StructureEditor x = filled(200);
        Due.due("byteAt(0)", x.byteAt(0), 0);
        Due.due("byteAt(199)", x.byteAt(199), 199);
        for (int at : new int[] {-1, 200, 201, MIN, MAX}) {
            Due.due("byteAt(" + at + ") of 200", x.byteAt(at), BAD);
        }
        x.delete(0, 1);
        Due.due("byteAt(198)", x.byteAt(198), 199);
        Due.due("byteAt(199) of 199", x.byteAt(199), BAD);
        refused("byteAt(-1)", y -> y.byteAt(-1), BAD);
        refused("byteAt(12)", y -> y.byteAt(12), BAD);
    }

    /** "at: the position, 0 to the length": "A position up to the length, inclusive, is a place between bytes". */
    private static void insertPlaces() {
        StructureEditor x = filled(3);
        Due.due("insert(3,9,1)", x.insert(3, 9, 1), 4);
        Due.due("insert(0,8,1)", x.insert(0, 8, 1), 5);
        Due.due("insert(4,7,1)", x.insert(4, 7, 1), 6);
        Due.buffer("after insert", x, 8, 0, 1, 2, 7, 9);
        Due.due("insert(0,1,1) into nothing", new StructureEditor().insert(0, 1, 1), 1);
        Due.due("insert(1,1,1) into nothing", new StructureEditor().insert(1, 1, 1), BAD);
        for (int at : new int[] {-1, 13, 14, 200, 201, MIN, MAX}) {
            refused("insert(" + at + ",0,1)", y -> y.insert(at, 0, 1), BAD);
        }
        Due.due("insert at the length", rich().insert(12, 0, 1), 13);
    }

    private static StructureEditor rich() {
        StructureEditor x = new StructureEditor();
        Refusal.rich(x);
        return x;
    }

    /** "value: the byte, 0 to 255". */
    private static void insertValues() {
        StructureEditor x = new StructureEditor();
        Due.due("insert(0,0,1)", x.insert(0, 0, 1), 1);
        Due.due("insert(0,255,1)", x.insert(0, 255, 1), 2);
        Due.buffer("after insert", x, 255, 0);
        for (int value : new int[] {-1, 256, 511, -256, MIN, MAX}) {
            refused("insert(0," + value + ",1)", y -> y.insert(0, value, 1), BAD);
        }
    }

    /** "n: how many, 1 to 64". */
    private static void insertNumbers() {
        StructureEditor x = filled(2);
        Due.due("insert(1,9,1)", x.insert(1, 9, 1), 3);
        Due.due("insert(1,8,64)", x.insert(1, 8, 64), 67);
        Due.due("byteAt(0)", x.byteAt(0), 0);
        Due.due("byteAt(1)", x.byteAt(1), 8);
        Due.due("byteAt(64)", x.byteAt(64), 8);
        Due.due("byteAt(65)", x.byteAt(65), 9);
        Due.due("byteAt(66)", x.byteAt(66), 1);
        for (int n : new int[] {0, 65, -1, 200, MIN, MAX}) {
            refused("insert(0,0," + n + ")", y -> y.insert(0, 0, n), BAD);
        }
    }

    /** "FULL if there would be more than 200 bytes". */
    private static void insertFull() {
        for (int n : new int[] {1, 2, 64}) {
            StructureEditor x = filled(200 - n);
            Due.due("insert of " + n + " to 200", x.insert(0, 7, n), 200);
            Due.due("the last byte", x.byteAt(199), 199 - n);
            Due.due("undo", x.undo(), 11);
            Due.due("insert of " + n + " at the end", x.insert(200 - n, 7, n), 200);
            Due.due("the last byte", x.byteAt(199), 7);
            Refusal.refused("insert of " + n + " to 201", y -> fill(y, 201 - n), y -> y.insert(0, 7, n), FULL);
            Refusal.refused("insert of " + n + " to 201, at the end", y -> fill(y, 201 - n),
                    y -> y.insert(201 - n, 7, n), FULL);
        }
        Refusal.Run full = y -> fill(y, 200);
        Refusal.refused("insert into 200", full, y -> y.insert(200, 7, 1), FULL);
        Refusal.refused("insert of 64 into 200", full, y -> y.insert(0, 7, 64), FULL);
        Refusal.refused("BAD before FULL: place", full, y -> y.insert(201, 7, 1), BAD);
        Refusal.refused("BAD before FULL: value", full, y -> y.insert(0, 256, 1), BAD);
        Refusal.refused("BAD before FULL: 65 bytes", full, y -> y.insert(0, 7, 65), BAD);
        Refusal.refused("BAD before FULL: no bytes", full, y -> y.insert(0, 7, 0), BAD);
    }

    /** "at: the position of the first one"; all must exist. */
    private static void deletePlaces() {
        StructureEditor x = filled(5);
        Due.due("delete(4,1)", x.delete(4, 1), 4);
        Due.due("delete(0,1)", x.delete(0, 1), 3);
        Due.buffer("after delete", x, 1, 2, 3);
        Due.due("delete(0,1) of nothing", new StructureEditor().delete(0, 1), BAD);
        for (int at : new int[] {-1, 12, 13, MIN, MAX}) {
            refused("delete(" + at + ",1)", y -> y.delete(at, 1), BAD);
        }
    }

    /** "n: how many, at least 1; all must exist". */
    private static void deleteNumbers() {
        StructureEditor x = filled(5);
        Due.due("delete(2,3)", x.delete(2, 3), 2);
        Due.due("undo", x.undo(), 5);
        Due.due("delete(0,5)", x.delete(0, 5), 0);
        Due.due("delete of 200", filled(200).delete(0, 200), 0);
        Due.due("delete of 199", filled(200).delete(1, 199), 1);
        for (int n : new int[] {0, -1, 13, 64, 201, MIN, MAX}) {
            refused("delete(0," + n + ")", y -> y.delete(0, n), BAD);
        }
        for (int n : new int[] {0, -1, 2, MIN, MAX}) {
            refused("delete(11," + n + ")", y -> y.delete(11, n), BAD);
        }
        refused("delete(3,10)", y -> y.delete(3, 10), BAD);
        Due.due("delete(3,9)", rich().delete(3, 9), 3);
        refused("delete(12,0)", y -> y.delete(12, 0), BAD);
        refused("delete(-1,2)", y -> y.delete(-1, 2), BAD);
        refused("delete(MAX,MAX)", y -> y.delete(MAX, MAX), BAD);
    }

    /** overwrite(): "at: the position"; "value: the byte, 0 to 255". */
    private static void overwriteBounds() {
        StructureEditor x = filled(200);
        Due.due("overwrite(0,255)", x.overwrite(0, 255), 0);
        Due.due("overwrite(199,0)", x.overwrite(199, 0), 199);
        Due.due("byteAt(0)", x.byteAt(0), 255);
        Due.due("byteAt(199)", x.byteAt(199), 0);
        Due.due("overwrite(200,0)", x.overwrite(200, 0), BAD);
        Due.due("overwrite(0,0) of nothing", new StructureEditor().overwrite(0, 0), BAD);
        for (int at : new int[] {-1, 12, 13, MIN, MAX}) {
            refused("overwrite(" + at + ",0)", y -> y.overwrite(at, 0), BAD);
        }
        for (int value : new int[] {-1, 256, MIN, MAX}) {
            refused("overwrite(0," + value + ")", y -> y.overwrite(0, value), BAD);
        }
    }

    /** copy(): "at: the position of the first one, 0 to the length". */
    private static void copyPlaces() {
        StructureEditor x = filled(3);
        Due.due("copy(2,1)", x.copy(2, 1), 1);
        Due.due("paste(0)", x.paste(0), 4);
        Due.due("byteAt(0)", x.byteAt(0), 2);
        Due.due("copy(4,0)", x.copy(4, 0), 0);
        for (int at : new int[] {-1, 13, 14, MIN, MAX}) {
            refused("copy(" + at + ",0)", y -> y.copy(at, 0), BAD);
            refused("copy(" + at + ",1)", y -> y.copy(at, 1), BAD);
        }
        refused("copy(12,1)", y -> y.copy(12, 1), BAD);
        Due.due("copy(11,1)", rich().copy(11, 1), 1);
        Due.due("copy(12,0)", rich().copy(12, 0), 0);
    }

    /** "n: how many, 0 to 32; all must exist"; "a clipboard with 0 to 32 bytes". */
    private static void copyNumbers() {
        StructureEditor x = filled(64);
        Due.due("copy(0,32)", x.copy(0, 32), 32);
        Due.due("copy(32,32)", x.copy(32, 32), 32);
        Due.due("count(4)", x.count(4), 32);
        Due.due("copy(0,33)", x.copy(0, 33), BAD);
        Due.due("copy(33,32): the last one does not exist", x.copy(33, 32), BAD);
        Due.due("copy(33,31)", x.copy(33, 31), 31);
        Due.due("count(4)", x.count(4), 31);
        for (int n : new int[] {-1, 13, 32, 33, MIN, MAX}) {
            refused("copy(0," + n + ")", y -> y.copy(0, n), BAD);
        }
        refused("copy(9,4)", y -> y.copy(9, 4), BAD);
        refused("copy(1,MAX)", y -> y.copy(1, MAX), BAD);
        Due.due("copy(9,3)", rich().copy(9, 3), 3);
        Refusal.refused("copy(0,33) of many bytes", y -> fill(y, 40), y -> y.copy(0, 33), BAD);
        Refusal.refused("copy(8,33) of many bytes", y -> fill(y, 40), y -> y.copy(8, 33), BAD);
    }

    /** A copy of 0 bytes makes the clipboard empty. */
    private static void copyOfNothing() {
        StructureEditor x = rich();
        Due.due("count(4)", x.count(4), 3);
        Due.due("copy(0,0)", x.copy(0, 0), 0);
        Due.due("count(4)", x.count(4), 0);
        Due.due("paste(0)", x.paste(0), STATE);
        Due.due("pasteOver(0)", x.pasteOver(0), STATE);
        StructureEditor y = new StructureEditor();
        Due.due("copy(0,0) of an empty buffer", y.copy(0, 0), 0);
        Due.due("copy(1,0) of an empty buffer", y.copy(1, 0), BAD);
        Due.due("copy(0,1) of an empty buffer", y.copy(0, 1), BAD);
    }

    /** "Copies bytes to the clipboard. This is no change.": later changes do not reach it. */
    private static void clipboardIsACopy() {
        StructureEditor x = filled(4);
        Due.due("copy(1,2)", x.copy(1, 2), 2);
        Due.due("copy is no change", x.count(2), 4);
        x.overwrite(1, 9);
        x.undo();
        Due.due("copy(2,2) keeps what can be redone", x.copy(2, 2), 2);
        Due.due("count(3)", x.count(3), 1);
        x.delete(0, 4);
        Due.due("paste(0)", x.paste(0), 2);
        Due.buffer("after paste", x, 2, 3);
        Due.due("paste(1): the clipboard stays", x.paste(1), 4);
        Due.buffer("after paste again", x, 2, 2, 3, 3);
    }

    /** paste(): "at: the position, 0 to the length". */
    private static void pastePlaces() {
        StructureEditor x = filled(3);
        x.copy(0, 2);
        Due.due("paste(3)", x.paste(3), 5);
        Due.buffer("after paste(3)", x, 0, 1, 2, 0, 1);
        Due.due("paste(0)", x.paste(0), 7);
        Due.buffer("after paste(0)", x, 0, 1, 0, 1, 2, 0, 1);
        for (int at : new int[] {-1, 13, 14, MIN, MAX}) {
            refused("paste(" + at + ")", y -> y.paste(at), BAD);
        }
        Due.due("paste(12)", rich().paste(12), 15);
    }

    private static void richWithoutClipboard(StructureEditor x) {
        Refusal.rich(x);
        x.copy(0, 0);
    }

    /** paste(): "STATE if the clipboard is empty". */
    private static void pasteOfNothing() {
        Due.due("paste(0) of a new object", new StructureEditor().paste(0), STATE);
        for (int at : new int[] {0, 6, 12}) {
            Refusal.refused("paste(" + at + ") of nothing", BufferBoundsTest::richWithoutClipboard,
                    x -> x.paste(at), STATE);
        }
        for (int at : new int[] {-1, 13}) {
            Refusal.refused("paste(" + at + ") of nothing", BufferBoundsTest::richWithoutClipboard,
                    x -> x.paste(at), BAD);
        }
        Refusal.refused("paste of nothing into a full buffer", x -> fill(x, 200), x -> x.paste(200), STATE);
        Refusal.refused("paste of nothing behind a full buffer", x -> fill(x, 200), x -> x.paste(201), BAD);
        Due.due("paste(0) of one byte", pasteOfOne().paste(0), 2);
    }

    private static StructureEditor pasteOfOne() {
        StructureEditor x = filled(1);
        x.copy(0, 1);
        return x;
    }

    /** paste(): "FULL if there would be more than 200 bytes". */
    private static void pasteFull() {
        for (int n : new int[] {1, 32}) {
            Refusal.Run most = x -> {
                fill(x, 200 - n);
                x.copy(0, n);
            };
            Refusal.Run tooMany = x -> {
                fill(x, 201 - n);
                x.copy(0, n);
            };
            StructureEditor x = new StructureEditor();
            most.on(x);
            Due.due("paste of " + n + " to 200", x.paste(200 - n), 200);
            Due.due("its last byte", x.byteAt(199), n - 1);
            x.undo();
            Due.due("paste of " + n + " to 200, before all", x.paste(0), 200);
            Due.due("the last byte", x.byteAt(199), 199 - n);
            Due.due("paste into 200", x.paste(0), FULL);
            Refusal.refused("paste of " + n + " to 201", tooMany, y -> y.paste(0), FULL);
            Refusal.refused("paste of " + n + " to 201, at the end", tooMany, y -> y.paste(201 - n), FULL);
            Refusal.refused("BAD before FULL", tooMany, y -> y.paste(202 - n), BAD);
            Refusal.refused("BAD before FULL", tooMany, y -> y.paste(-1), BAD);
        }
    }

    /** pasteOver(): "at: the position of the first one, 0 to the length". */
    private static void pasteOverPlaces() {
        StructureEditor x = filled(6);
        x.copy(4, 2);
        Due.due("pasteOver(0)", x.pasteOver(0), 2);
        Due.due("pasteOver(4)", x.pasteOver(4), 2);
        Due.buffer("after pasteOver", x, 4, 5, 2, 3, 4, 5);
        for (int at : new int[] {-1, 13, 14, MIN, MAX}) {
            refused("pasteOver(" + at + ")", y -> y.pasteOver(at), BAD);
        }
    }

    /** pasteOver(): "STATE if the clipboard is empty". */
    private static void pasteOverOfNothing() {
        Due.due("pasteOver(0) of a new object", new StructureEditor().pasteOver(0), STATE);
        for (int at : new int[] {0, 6, 12}) {
            Refusal.refused("pasteOver(" + at + ") of nothing", BufferBoundsTest::richWithoutClipboard,
                    x -> x.pasteOver(at), STATE);
        }
        for (int at : new int[] {-1, 13}) {
            Refusal.refused("pasteOver(" + at + ") of nothing", BufferBoundsTest::richWithoutClipboard,
                    x -> x.pasteOver(at), BAD);
        }
    }

    /** pasteOver(): "FULL if the bytes would not lie in the buffer". */
    private static void pasteOverFull() {
        StructureEditor x = rich();
        Due.due("pasteOver(9): the last three", x.pasteOver(9), 3);
        Due.due("length()", x.length(), 12);
        for (int at : new int[] {10, 11, 12}) {
            refused("pasteOver(" + at + ")", y -> y.pasteOver(at), FULL);
        }
        Refusal.Run full = y -> {
            fill(y, 200);
            y.copy(100, 32);
        };
        StructureEditor z = new StructureEditor();
        full.on(z);
        Due.due("pasteOver(168) of 32", z.pasteOver(168), 32);
        Due.due("byteAt(167)", z.byteAt(167), 167);
        Due.due("byteAt(168)", z.byteAt(168), 100);
        Due.due("byteAt(199)", z.byteAt(199), 131);
        Due.due("a full buffer stays full", z.length(), 200);
        Refusal.refused("pasteOver(169) of 32", full, y -> y.pasteOver(169), FULL);
        Refusal.refused("pasteOver(200) of 32", full, y -> y.pasteOver(200), FULL);
        Refusal.refused("pasteOver(201) of 32", full, y -> y.pasteOver(201), BAD);
        // a clipboard longer than the buffer fits nowhere
        StructureEditor y = filled(3);
        y.copy(0, 3);
        y.delete(0, 1);
        Due.due("pasteOver(0) of more than there is", y.pasteOver(0), FULL);
        y.delete(0, 2);
        Due.due("pasteOver(0) of an empty buffer", y.pasteOver(0), FULL);
        Due.due("paste(0) of an empty buffer", y.paste(0), 3);
        Due.due("pasteOver(0) of as many as there are", y.pasteOver(0), 3);
    }

    private static StructureEditor withOverlays(int length, int... offsets) {
        StructureEditor x = filled(length);
        for (int overlay = 0; overlay < offsets.length; overlay++) {
            x.lay(overlay, 0, offsets[overlay]);
        }
        return x;
    }

    private static void offsets(String when, StructureEditor x, int... want) {
        for (int overlay = 0; overlay < want.length; overlay++) {
            Due.due("overlay(" + overlay + ",1) " + when, x.overlay(overlay, 1), want[overlay]);
        }
    }

    /** "When bytes are inserted at a position p, each overlay with an offset greater than p moves with its bytes". */
    private static void overlaysAtTheInsertedPlace() {
        StructureEditor x = withOverlays(10, 4, 5, 6, 10);
        Due.due("insert(5,0,1)", x.insert(5, 0, 1), 11);
        offsets("after insert(5)", x, 4, 5, 7, 11);
        Due.due("undo", x.undo(), 11);
        offsets("after undo", x, 4, 5, 6, 10);
        Due.due("insert(10,0,64)", x.insert(10, 0, 64), 74);
        offsets("after insert at the length", x, 4, 5, 6, 10);
        x = withOverlays(10, 0, 1, 9, 10);
        Due.due("insert(0,0,64)", x.insert(0, 0, 64), 74);
        offsets("after insert(0)", x, 0, 65, 73, 74);
        x = withOverlays(10, 4, 5, 6, 10);
        x.copy(0, 3);
        Due.due("paste(5)", x.paste(5), 13);
        offsets("after paste(5)", x, 4, 5, 9, 13);
        Due.due("pasteOver(4)", x.pasteOver(4), 3);
        Due.due("overwrite(4,1)", x.overwrite(4, 1), 0);
        offsets("after pasteOver and overwrite", x, 4, 5, 9, 13);
        // an offset at the end of a buffer that gets full
        x = withOverlays(136, 0, 135, 136);
        Due.due("insert(135,0,64)", x.insert(135, 0, 64), 200);
        offsets("after insert to 200", x, 0, 135, 200);
    }

    /**
     * "when n bytes are deleted from position p on, the offset of each overlay with an offset greater than p
     * decreases by n, but not below p".
     */
    private static void overlaysAtTheDeletedPlace() {
        StructureEditor x = withOverlays(10, 3, 4, 5, 6);
        Due.due("delete(4,1)", x.delete(4, 1), 9);
        offsets("after delete(4,1)", x, 3, 4, 4, 5);
        x = withOverlays(10, 4, 6, 7, 8);
        Due.due("delete(4,3)", x.delete(4, 3), 7);
        offsets("after delete(4,3)", x, 4, 4, 4, 5);
        x = withOverlays(10, 0, 1, 9, 10);
        Due.due("delete(0,10)", x.delete(0, 10), 0);
        offsets("after delete of all", x, 0, 0, 0, 0);
        x = withOverlays(10, 0, 8, 9, 10);
        Due.due("delete(9,1)", x.delete(9, 1), 9);
        offsets("after delete of the last", x, 0, 8, 9, 9);
        Due.due("undo", x.undo(), 11);
        offsets("after undo", x, 0, 8, 9, 10);
        x = withOverlays(200, 1, 199, 200, 0);
        Due.due("delete(0,199)", x.delete(0, 199), 1);
        offsets("after delete(0,199)", x, 0, 0, 1, 0);
        // an overlay that comes later has no offset of an earlier one
        x = withOverlays(5, 5);
        Due.due("remove(0)", x.remove(0), 5);
        Due.due("delete(0,1)", x.delete(0, 1), 4);
        Due.due("overlay(0,1)", x.overlay(0, 1), BAD);
        Due.due("lay(0,0,4)", x.lay(0, 0, 4), 0);
        offsets("after lay", x, 4);
    }
}
