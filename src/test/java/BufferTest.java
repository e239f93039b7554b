/** Promises 1 and 10 to 17: a new object, the buffer and the clipboard. */
public final class BufferTest {
    private static final int BAD = -1001, STATE = -1002, FULL = -1003;

    private BufferTest() {
    }

    public static void main(String[] args) {
        newObject();
        reading();
        inserting();
        deleting();
        overwriting();
        copying();
        pasting();
        pastingOver();
        moving();
        Due.finish();
    }

    private static void newObject() {
        StructureEditor x = new StructureEditor();
        Due.due("length() of a new object", x.length(), 0);
        for (int what = 0; what <= 7; what++) {
            Due.due("count(" + what + ") of a new object", x.count(what), 0);
        }
        for (int i = 0; i < 4; i++) {
            Due.due("items(" + i + ") of a new object", x.items(i), 0);
            Due.due("overlay(" + i + ",0) of a new object", x.overlay(i, 0), BAD);
        }
        Due.due("follow(true) of a new object", x.follow(true), 0);
    }

    private static void reading() {
        StructureEditor x = new StructureEditor();
        Due.due("byteAt(0) of an empty buffer", x.byteAt(0), BAD);
        Due.bytes(x, 0, 255);
        Due.due("length()", x.length(), 2);
        Due.due("byteAt(0)", x.byteAt(0), 0);
        Due.due("byteAt(1)", x.byteAt(1), 255);
        Due.due("byteAt(2)", x.byteAt(2), BAD);
        Due.due("byteAt(-1)", x.byteAt(-1), BAD);
        Due.due("byteAt(MAX)", x.byteAt(Integer.MAX_VALUE), BAD);
        Due.due("byteAt(MIN)", x.byteAt(Integer.MIN_VALUE), BAD);
    }

    private static void inserting() {
        StructureEditor x = new StructureEditor();
        Due.due("insert(-1,0,1)", x.insert(-1, 0, 1), BAD);
        Due.due("insert(1,0,1)", x.insert(1, 0, 1), BAD);
        Due.due("insert(0,-1,1)", x.insert(0, -1, 1), BAD);
        Due.due("insert(0,256,1)", x.insert(0, 256, 1), BAD);
        Due.due("insert(0,0,0)", x.insert(0, 0, 0), BAD);
        Due.due("insert(0,0,65)", x.insert(0, 0, 65), BAD);
        Due.due("insert(0,0,MIN)", x.insert(0, 0, Integer.MIN_VALUE), BAD);
        Due.due("no error is a change", x.count(2), 0);
        Due.due("insert(0,1,2)", x.insert(0, 1, 2), 2);
        Due.due("insert(1,2,3)", x.insert(1, 2, 3), 5);
        Due.due("insert(5,3,1)", x.insert(5, 3, 1), 6);
        Due.buffer("after insert", x, 1, 2, 2, 2, 1, 3);
        Due.due("insert is a change", x.count(2), 3);
        Due.due("insert to 70", x.insert(6, 4, 64), 70);
        Due.due("insert to 134", x.insert(0, 4, 64), 134);
        Due.due("insert to 198", x.insert(0, 4, 64), 198);
        Due.due("insert to 201", x.insert(0, 4, 3), FULL);
        Due.due("BAD before FULL", x.insert(199, 4, 3), BAD);
        Due.due("insert to 200", x.insert(198, 4, 2), 200);
        Due.due("insert at the end of a full buffer", x.insert(200, 4, 1), FULL);
        Due.due("length()", x.length(), 200);
        Due.due("count(2)", x.count(2), 7);
    }

    private static void deleting() {
        StructureEditor x = new StructureEditor();
        Due.due("delete(0,1) of nothing", x.delete(0, 1), BAD);
        Due.bytes(x, 1, 2, 3, 4, 5);
        Due.due("delete(0,0)", x.delete(0, 0), BAD);
        Due.due("delete(0,-1)", x.delete(0, -1), BAD);
        Due.due("delete(-1,1)", x.delete(-1, 1), BAD);
        Due.due("delete(5,1)", x.delete(5, 1), BAD);
        Due.due("delete(3,3)", x.delete(3, 3), BAD);
        Due.due("delete(1,MAX)", x.delete(1, Integer.MAX_VALUE), BAD);
        Due.due("count(2)", x.count(2), 5);
        Due.due("delete(1,2)", x.delete(1, 2), 3);
        Due.buffer("after delete", x, 1, 4, 5);
        Due.due("delete(2,1)", x.delete(2, 1), 2);
        Due.due("delete(0,2)", x.delete(0, 2), 0);
        Due.due("count(2)", x.count(2), 8);
    }

    private static void overwriting() {
        StructureEditor x = new StructureEditor();
        Due.due("overwrite(0,0) of nothing", x.overwrite(0, 0), BAD);
        Due.bytes(x, 1, 2);
        Due.due("overwrite(-1,0)", x.overwrite(-1, 0), BAD);
        Due.due("overwrite(2,0)", x.overwrite(2, 0), BAD);
        Due.due("overwrite(0,-1)", x.overwrite(0, -1), BAD);
        Due.due("overwrite(0,256)", x.overwrite(0, 256), BAD);
        Due.due("overwrite(1,255)", x.overwrite(1, 255), 2);
        Due.due("overwrite(1,255) again", x.overwrite(1, 255), 255);
        Due.buffer("after overwrite", x, 1, 255);
        Due.due("the same byte is a change, too", x.count(2), 4);
    }

    private static void copying() {
        StructureEditor x = new StructureEditor();
        Due.due("copy(0,0) of nothing", x.copy(0, 0), 0);
        Due.due("copy(1,0) of nothing", x.copy(1, 0), BAD);
        Due.due("insert", x.insert(0, 7, 40), 40);
        Due.due("copy(-1,1)", x.copy(-1, 1), BAD);
        Due.due("copy(0,-1)", x.copy(0, -1), BAD);
        Due.due("copy(0,33)", x.copy(0, 33), BAD);
        Due.due("copy(9,32)", x.copy(9, 32), BAD);
        Due.due("copy(40,1)", x.copy(40, 1), BAD);
        Due.due("copy(41,0)", x.copy(41, 0), BAD);
        Due.due("count(4)", x.count(4), 0);
        Due.due("copy(8,32)", x.copy(8, 32), 32);
        Due.due("count(4)", x.count(4), 32);
        Due.due("copy(40,0)", x.copy(40, 0), 0);
        Due.due("count(4)", x.count(4), 0);
        Due.due("copy is no change", x.count(2), 1);
    }

    private static void pasting() {
        StructureEditor x = new StructureEditor();
        Due.due("paste(1) into nothing", x.paste(1), BAD);
        Due.due("paste(0) of nothing", x.paste(0), STATE);
        Due.bytes(x, 1, 2, 3);
        Due.due("copy(1,2)", x.copy(1, 2), 2);
        Due.due("paste(-1)", x.paste(-1), BAD);
        Due.due("paste(4)", x.paste(4), BAD);
        Due.due("paste(1)", x.paste(1), 5);
        Due.buffer("after paste(1)", x, 1, 2, 3, 2, 3);
        Due.due("paste(5)", x.paste(5), 7);
        Due.due("paste(0)", x.paste(0), 9);
        Due.buffer("after pastes", x, 2, 3, 1, 2, 3, 2, 3, 2, 3);
        Due.due("paste is a change", x.count(2), 6);
        x.insert(0, 0, 64);
        x.insert(0, 0, 64);
        x.insert(0, 0, 62);
        Due.due("length 199", x.length(), 199);
        Due.due("paste beyond 200", x.paste(0), FULL);
        Due.due("BAD before FULL", x.paste(200), BAD);
        Due.due("delete", x.delete(0, 1), 198);
        Due.due("paste to 200", x.paste(198), 200);
        Due.due("byteAt(199)", x.byteAt(199), 3);
    }

    private static void pastingOver() {
        StructureEditor x = new StructureEditor();
        Due.due("pasteOver(1) of nothing", x.pasteOver(1), BAD);
        Due.due("pasteOver(0) of nothing", x.pasteOver(0), STATE);
        Due.bytes(x, 1, 2, 3, 4);
        Due.due("copy(0,2)", x.copy(0, 2), 2);
        Due.due("pasteOver(-1)", x.pasteOver(-1), BAD);
        Due.due("pasteOver(5)", x.pasteOver(5), BAD);
        Due.due("pasteOver(3)", x.pasteOver(3), FULL);
        Due.due("pasteOver(4)", x.pasteOver(4), FULL);
        Due.due("pasteOver(2)", x.pasteOver(2), 2);
        Due.buffer("after pasteOver", x, 1, 2, 1, 2);
        Due.due("pasteOver is a change", x.count(2), 5);
    }

    /** Overlays behind the place move with their bytes, that at the place does not. */
    private static void moving() {
        StructureEditor x = new StructureEditor();
        x.insert(0, 0, 10);
        x.lay(0, 0, 3);
        x.lay(1, 0, 4);
        x.lay(2, 0, 8);
        x.lay(3, 0, 10);
        Due.due("insert(4,1,2)", x.insert(4, 1, 2), 12);
        offsets("after insert(4,1,2)", x, 3, 4, 10, 12);
        Due.due("copy(0,3)", x.copy(0, 3), 3);
        Due.due("paste(3)", x.paste(3), 15);
        offsets("after paste(3)", x, 3, 7, 13, 15);
        Due.due("pasteOver(3)", x.pasteOver(3), 3);
        offsets("after pasteOver(3)", x, 3, 7, 13, 15);
        Due.due("delete(5,4)", x.delete(5, 4), 11);
        offsets("after delete(5,4)", x, 3, 5, 9, 11);
        Due.due("delete(3,8)", x.delete(3, 8), 3);
        offsets("after delete(3,8)", x, 3, 3, 3, 3);
        Due.due("delete(0,3)", x.delete(0, 3), 0);
        offsets("after delete(0,3)", x, 0, 0, 0, 0);
        Due.due("insert(0,1,1)", x.insert(0, 1, 1), 1);
        offsets("after insert(0,1,1)", x, 0, 0, 0, 0);
    }

    private static void offsets(String when, StructureEditor x, int... want) {
        for (int overlay = 0; overlay < 4; overlay++) {
            Due.due("overlay(" + overlay + ",1) " + when, x.overlay(overlay, 1), want[overlay]);
        }
    }
}
