/**
 * "If several errors apply to a call, the one that comes first in this list is returned": BAD, STATE, FULL, RANGE,
 * UNSTABLE. "NONE is no error; it means that there is no such thing, and is returned only if no error applies."
 * "A call that returns an error changes nothing."
 */
public final class ErrorOrderTest {
    private static final int BAD = -1001, STATE = -1002, FULL = -1003, RANGE = -1004, UNSTABLE = -1005, NONE = -1009;

    private ErrorOrderTest() {
    }

    public static void main(String[] args) {
        badBeforeState();
        badBeforeFull();
        badBeforeRange();
        badBeforeUnstable();
        stateBeforeUnstable();
        fullBeforeUnstable();
        rangeBeforeUnstable();
        stateWithoutFull();
        errorsBeforeNone();
        noneChangesNothing();
        codes();
        Due.finish();
    }

    private static void empty(StructureEditor x) {
        x.length();
    }

    /** A full buffer and a full clipboard. */
    private static void full(StructureEditor x) {
        for (int n = 0; n < 4; n++) {
            x.insert(0, n, 50);
        }
        x.copy(40, 32);
    }

    /** Two overlays that want the byte 1 to be different: with following, each change is unstable. */
    private static void unstable(StructureEditor x) {
        Due.bytes(x, 5, 5, 0, 7);
        Due.define(x, 0, "a:u1;k:x(a,a);", 2);
        Due.define(x, 1, "e:{};k:x(e,e);", 2);
        Due.define(x, 2, "b:u1;", 1);
        x.lay(0, 0, 0);
        x.lay(1, 1, 1);
        x.lay(2, 2, 3);
        x.follow(true);
    }

    private static void unstableWithClipboard(StructureEditor x) {
        unstable(x);
        x.copy(2, 2);
    }

    /** The same in a buffer of 200 bytes. */
    private static void unstableAndFull(StructureEditor x) {
        unstable(x);
        x.follow(false);
        x.copy(0, 4);
        for (int n = 0; n < 4; n++) {
            x.insert(x.length(), 9, 49);
        }
        x.follow(true);
    }

    private static void badBeforeState() {
        Refusal.refused("define(-1) of a fault", Refusal::rich, x -> x.define(-1), BAD);
        Refusal.refused("define(4) of a fault", Refusal::rich, x -> x.define(4), BAD);
        Refusal.refused("find(-1) of no pattern", Refusal::rich, x -> x.find(-1), BAD);
        Refusal.refused("find(201) of no pattern", Refusal::rich, x -> x.find(201), BAD);
        Refusal.refused("paste(-1) of nothing", ErrorOrderTest::empty, x -> x.paste(-1), BAD);
        Refusal.refused("paste(1) of nothing", ErrorOrderTest::empty, x -> x.paste(1), BAD);
        Refusal.refused("pasteOver(-1) of nothing", ErrorOrderTest::empty, x -> x.pasteOver(-1), BAD);
        Refusal.refused("pasteOver(1) of nothing", ErrorOrderTest::empty, x -> x.pasteOver(1), BAD);
        Refusal.refused("repair of no field", Refusal::rich, x -> x.repair(0, 3), BAD);
    }

    private static void badBeforeFull() {
        Refusal.Run text = x -> Due.text(x, "a".repeat(120));
        Refusal.refused("type(128) into a full text", text, x -> x.type(128), BAD);
        Refusal.refused("type(-1) into a full text", text, x -> x.type(-1), BAD);
        Refusal.refused("type(0) into a full text", text, x -> x.type(0), FULL);
        Refusal.refused("insert(201,0,1)", ErrorOrderTest::full, x -> x.insert(201, 0, 1), BAD);
        Refusal.refused("insert(-1,0,1)", ErrorOrderTest::full, x -> x.insert(-1, 0, 1), BAD);
        Refusal.refused("insert(0,256,1)", ErrorOrderTest::full, x -> x.insert(0, 256, 1), BAD);
        Refusal.refused("insert(0,-1,1)", ErrorOrderTest::full, x -> x.insert(0, -1, 1), BAD);
        Refusal.refused("insert(0,0,0)", ErrorOrderTest::full, x -> x.insert(0, 0, 0), BAD);
        Refusal.refused("insert(0,0,65)", ErrorOrderTest::full, x -> x.insert(0, 0, 65), BAD);
        Refusal.refused("insert(0,0,1)", ErrorOrderTest::full, x -> x.insert(0, 0, 1), FULL);
        Refusal.refused("paste(201)", ErrorOrderTest::full, x -> x.paste(201), BAD);
        Refusal.refused("paste(200)", ErrorOrderTest::full, x -> x.paste(200), FULL);
        Refusal.refused("pasteOver(201)", ErrorOrderTest::full, x -> x.pasteOver(201), BAD);
        Refusal.refused("pasteOver(200)", ErrorOrderTest::full, x -> x.pasteOver(200), FULL);
        Refusal.refused("pasteOver(169)", ErrorOrderTest::full, x -> x.pasteOver(169), FULL);
    }

    private static void badBeforeRange() {
        Refusal.refused("setField(1,0,256)", Refusal::rich, x -> x.setField(1, 0, 256), BAD);
        Refusal.refused("setField(0,3,256)", Refusal::rich, x -> x.setField(0, 3, 256), BAD);
        Refusal.refused("setField(0,-1,-1)", Refusal::rich, x -> x.setField(0, -1, -1), BAD);
        Refusal.refused("setField(0,0,256)", Refusal::rich, x -> x.setField(0, 0, 256), RANGE);
    }

    private static void badBeforeUnstable() {
        Refusal.Run before = ErrorOrderTest::unstableWithClipboard;
        Refusal.refused("insert", before, x -> x.insert(5, 0, 1), BAD);
        Refusal.refused("delete", before, x -> x.delete(3, 2), BAD);
        Refusal.refused("overwrite", before, x -> x.overwrite(4, 0), BAD);
        Refusal.refused("overwrite", before, x -> x.overwrite(3, 256), BAD);
        Refusal.refused("paste", before, x -> x.paste(5), BAD);
        Refusal.refused("pasteOver", before, x -> x.pasteOver(5), BAD);
        Refusal.refused("lay", before, x -> x.lay(3, 2, 5), BAD);
        Refusal.refused("remove", before, x -> x.remove(3), BAD);
        Refusal.refused("setField", before, x -> x.setField(2, 1, 0), BAD);
        Refusal.refused("insert", before, x -> x.insert(4, 0, 1), UNSTABLE);
        Refusal.refused("delete", before, x -> x.delete(3, 1), UNSTABLE);
        Refusal.refused("overwrite", before, x -> x.overwrite(3, 0), UNSTABLE);
        Refusal.refused("paste", before, x -> x.paste(4), UNSTABLE);
        Refusal.refused("pasteOver", before, x -> x.pasteOver(2), UNSTABLE);
        Refusal.refused("lay", before, x -> x.lay(3, 2, 4), UNSTABLE);
        Refusal.refused("remove", before, x -> x.remove(2), UNSTABLE);
        Refusal.refused("setField", before, x -> x.setField(2, 0, 0), UNSTABLE);
    }

    private static void stateBeforeUnstable() {
        Refusal.refused("paste of nothing", ErrorOrderTest::unstable, x -> x.paste(4), STATE);
        Refusal.refused("pasteOver of nothing", ErrorOrderTest::unstable, x -> x.pasteOver(2), STATE);
        Refusal.refused("paste of nothing behind the end", ErrorOrderTest::unstable, x -> x.paste(5), BAD);
    }

    private static void fullBeforeUnstable() {
        Refusal.refused("insert", ErrorOrderTest::unstableAndFull, x -> x.insert(200, 0, 1), FULL);
        Refusal.refused("paste", ErrorOrderTest::unstableAndFull, x -> x.paste(200), FULL);
        Refusal.refused("pasteOver", ErrorOrderTest::unstableAndFull, x -> x.pasteOver(197), FULL);
        Refusal.refused("pasteOver", ErrorOrderTest::unstableAndFull, x -> x.pasteOver(196), UNSTABLE);
        Refusal.refused("overwrite", ErrorOrderTest::unstableAndFull, x -> x.overwrite(199, 0), UNSTABLE);
    }

    private static void rangeBeforeUnstable() {
        Refusal.refused("setField(2,0,256)", ErrorOrderTest::unstable, x -> x.setField(2, 0, 256), RANGE);
        Refusal.refused("setField(2,0,-1)", ErrorOrderTest::unstable, x -> x.setField(2, 0, -1), RANGE);
        Refusal.refused("setField(2,0,255)", ErrorOrderTest::unstable, x -> x.setField(2, 0, 255), UNSTABLE);
        Refusal.refused("setField(0,1,256)", ErrorOrderTest::unstable, x -> x.setField(0, 1, 256), RANGE);
    }

    /** An empty clipboard fits everywhere, so that it is the only error. */
    private static void stateWithoutFull() {
        Refusal.Run before = x -> {
            full(x);
            x.copy(0, 0);
        };
        Refusal.refused("paste of nothing", before, x -> x.paste(200), STATE);
        Refusal.refused("pasteOver of nothing", before, x -> x.pasteOver(200), STATE);
        Refusal.refused("paste of nothing behind the end", before, x -> x.paste(201), BAD);
        Refusal.refused("pasteOver of nothing behind the end", before, x -> x.pasteOver(201), BAD);
    }

    private static void errorsBeforeNone() {
        Refusal.Run before = x -> {
            Refusal.rich(x);
            Due.text(x, "ee");
        };
        Refusal.refused("find(12)", before, x -> x.find(12), NONE);
        Refusal.refused("find(201)", before, x -> x.find(201), BAD);
        Refusal.refused("find of no pattern", Refusal::rich, x -> x.find(12), STATE);
        Refusal.refused("field(0,0,4)", before, x -> x.field(0, 0, 4), NONE);
        Refusal.refused("field(0,3,4)", before, x -> x.field(0, 3, 4), BAD);
        Refusal.refused("path(0,0,1)", before, x -> x.path(0, 0, 1), NONE);
        Refusal.refused("path(0,3,1)", before, x -> x.path(0, 3, 1), BAD);
        Refusal.refused("fieldAt(0,11)", before, x -> x.fieldAt(0, 11), NONE);
        Refusal.refused("fieldAt(0,12)", before, x -> x.fieldAt(0, 12), BAD);
        Refusal.refused("fieldAt(1,11)", before, x -> x.fieldAt(1, 11), BAD);
        Refusal.refused("counterpart(0,0,3)", before, x -> x.counterpart(0, 0, 3), NONE);
        Refusal.refused("counterpart(0,0,2)", before, x -> x.counterpart(0, 0, 2), BAD);
        Refusal.refused("counterpart(0,3,3)", before, x -> x.counterpart(0, 3, 3), BAD);
        Refusal.refused("expected(0,0)", before, x -> x.expected(0, 0), NONE);
        Refusal.refused("expected(0,3)", before, x -> x.expected(0, 3), BAD);
        Refusal.refused("repair(3,1)", before, x -> x.repair(3, 1), NONE);
        Refusal.refused("repair(3,0)", before, x -> x.repair(3, 0), STATE);
        Refusal.refused("repair(3,2)", before, x -> x.repair(3, 2), BAD);
        Refusal.refused("difference(12)", before, x -> x.difference(12), NONE);
        Refusal.refused("difference(201)", before, x -> x.difference(201), BAD);
    }

    /** What only asks changes nothing, whatever it answers. */
    private static void noneChangesNothing() {
        Refusal.refused("length()", Refusal::rich, x -> x.length(), 12);
        Refusal.refused("byteAt(0)", Refusal::rich, x -> x.byteAt(0), 1);
        Refusal.refused("items(0)", Refusal::rich, x -> x.items(0), 3);
        Refusal.refused("templateFault()", Refusal::rich, x -> x.templateFault(), 6);
        Refusal.refused("patternFault()", Refusal::rich, x -> x.patternFault(), 1);
        Refusal.refused("overlay(3,5)", Refusal::rich, x -> x.overlay(3, 5), 1);
        Refusal.refused("value(0,0)", Refusal::rich, x -> x.value(0, 0), 1);
        Refusal.refused("path(0,0,0)", Refusal::rich, x -> x.path(0, 0, 0), 'n');
        Refusal.refused("fieldAt(0,0)", Refusal::rich, x -> x.fieldAt(0, 0), 0);
        Refusal.refused("counterpart(0,2,3)", Refusal::rich, x -> x.counterpart(0, 2, 3), 1);
        Refusal.refused("expected(3,1)", Refusal::rich, x -> x.expected(3, 1), 14);
        Refusal.refused("difference(0)", Refusal::rich, x -> x.difference(0), 2);
        Refusal.refused("distance()", Refusal::rich, x -> x.distance(), 6);
        Refusal.refused("count(1)", Refusal::rich, x -> x.count(1), 1);
        Refusal.refused("follow(false)", Refusal::rich, x -> x.follow(false), 0);
        Refusal.refused("the digest of the digest", Refusal::rich, x -> x.digest() - x.digest(), 0);
    }

    private static void codes() {
        Due.due("BAD", StructureEditor.BAD, BAD);
        Due.due("STATE", StructureEditor.STATE, STATE);
        Due.due("FULL", StructureEditor.FULL, FULL);
        Due.due("RANGE", StructureEditor.RANGE, RANGE);
        Due.due("UNSTABLE", StructureEditor.UNSTABLE, UNSTABLE);
        Due.due("NONE", StructureEditor.NONE, NONE);
    }
}
