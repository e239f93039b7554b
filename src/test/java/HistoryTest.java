/** Promises 31 to 37: history, comparison, numbers and the digest. */
public final class HistoryTest {
    private static final int BAD = -1001, STATE = -1002, NONE = -1009;

    private HistoryTest() {
    }

    public static void main(String[] args) {
        undoing();
        atMostTwelve();
        redoing();
        partsOfTheState();
        templatesAreNoPart();
        marking();
        distances();
        counting();
        digesting();
        Due.finish();
    }

    private static void undoing() {
        StructureEditor x = new StructureEditor();
        Due.due("undo of nothing", x.undo(), STATE);
        Due.bytes(x, 1, 2);
        Due.due("undo", x.undo(), 1);
        Due.buffer("after undo", x, 1);
        Due.due("undo", x.undo(), 0);
        Due.due("length", x.length(), 0);
        Due.due("undo of nothing more", x.undo(), STATE);
        Due.due("count(3)", x.count(3), 2);
    }

    private static void atMostTwelve() {
        StructureEditor x = new StructureEditor();
        for (int i = 1; i <= 15; i++) {
            x.insert(0, i, 1);
            Due.due("count(2) after " + i, x.count(2), Math.min(i, 12));
        }
        for (int i = 11; i >= 0; i--) {
            Due.due("undo", x.undo(), i);
            Due.due("length", x.length(), i + 3);
            Due.due("byteAt(0)", x.byteAt(0), i + 3);
        }
        Due.due("undo of the dropped one", x.undo(), STATE);
        for (int i = 11; i >= 0; i--) {
            Due.due("redo", x.redo(), i);
            Due.due("length", x.length(), 15 - i);
        }
        Due.due("redo of nothing more", x.redo(), STATE);
        Due.due("count(2)", x.count(2), 12);
    }

    private static void redoing() {
        StructureEditor x = new StructureEditor();
        Due.due("redo of nothing", x.redo(), STATE);
        Due.bytes(x, 1, 2, 3);
        Due.due("redo after a change", x.redo(), STATE);
        x.undo();
        x.undo();
        Due.due("count(2)", x.count(2), 1);
        Due.due("count(3)", x.count(3), 2);
        Due.due("redo", x.redo(), 1);
        Due.buffer("after redo", x, 1, 2);
        Due.due("count(2)", x.count(2), 2);
        Due.due("an error keeps what can be redone", x.insert(9, 0, 1), BAD);
        x.copy(0, 1);
        x.mark();
        x.follow(false);
        Due.define(x, 0, "a:u1;", 1);
        Due.due("so does what is no change", x.count(3), 1);
        Due.due("a change ends it", x.overwrite(0, 9), 1);
        Due.due("count(3)", x.count(3), 0);
        Due.due("redo", x.redo(), STATE);
        Due.due("undo", x.undo(), 2);
        Due.buffer("after undo", x, 1, 2);
        Due.due("redo", x.redo(), 0);
        Due.buffer("after redo", x, 9, 2);
    }

    private static void partsOfTheState() {
        StructureEditor x = new StructureEditor();
        Due.bytes(x, 1, 2, 3);
        Due.due("lay", x.lay(1, 2, 3), 0);
        x.mark();
        x.copy(0, 2);
        x.type(97);
        x.follow(true);
        Due.due("delete", x.delete(0, 2), 1);
        Due.due("offset", x.overlay(1, 1), 1);
        Due.due("remove", x.remove(1), 1);
        Due.due("undo", x.undo(), 5);
        Due.due("offset after undo", x.overlay(1, 1), 1);
        Due.due("undo", x.undo(), 4);
        Due.due("offset after undo", x.overlay(1, 1), 3);
        Due.due("undo", x.undo(), 3);
        Due.due("overlay(1,1)", x.overlay(1, 1), BAD);
        Due.due("undo", x.undo(), 2);
        Due.due("mark stays", x.count(5), 3);
        Due.due("clipboard stays", x.count(4), 2);
        Due.due("text stays", x.count(6), 1);
        Due.due("following stays", x.count(7), 1);
        Due.due("redo", x.redo(), 3);
        Due.due("redo", x.redo(), 2);
        Due.due("overlay(1,0)", x.overlay(1, 0), 2);
        Due.due("overlay(1,1)", x.overlay(1, 1), 3);
    }

    private static void templatesAreNoPart() {
        StructureEditor x = new StructureEditor();
        x.insert(0, 5, 4);
        Due.define(x, 0, "a:u1*3;", 1);
        Due.due("lay", x.lay(0, 0, 1), 3);
        Due.due("remove", x.remove(0), 1);
        Due.define(x, 0, "b:u2;.1;", 2);
        Due.due("undo", x.undo(), 2);
        Due.due("fields", x.overlay(0, 2), 1);
        Due.due("path", x.path(0, 0, 0), 'b');
        // undo and redo update no check, though following is switched on
        StructureEditor y = new StructureEditor();
        Due.bytes(y, 5, 6, 7);
        Due.define(y, 0, "a:u1;", 1);
        y.lay(0, 0, 0);
        y.remove(0);
        Due.define(y, 0, "a:u1;k:x(a,a);", 2);
        y.follow(true);
        Due.due("undo", y.undo(), 4);
        Due.buffer("after undo", y, 5, 6, 7);
        Due.due("count(1)", y.count(1), 1);
    }

    private static void marking() {
        StructureEditor x = new StructureEditor();
        Due.due("mark of nothing", x.mark(), 0);
        Due.due("difference(0)", x.difference(0), NONE);
        Due.bytes(x, 1, 2, 3);
        Due.due("difference(0): only one has it", x.difference(0), 0);
        Due.due("difference(2)", x.difference(2), 2);
        Due.due("difference(3)", x.difference(3), NONE);
        Due.due("mark", x.mark(), 3);
        Due.due("mark is no change", x.count(2), 3);
        Due.due("count(5)", x.count(5), 3);
        Due.due("difference(0)", x.difference(0), NONE);
        x.overwrite(1, 0);
        Due.due("difference(0)", x.difference(0), 1);
        Due.due("difference(1)", x.difference(1), 1);
        Due.due("difference(2)", x.difference(2), NONE);
        x.delete(2, 1);
        Due.due("difference(2): only the mark has it", x.difference(2), 2);
        Due.due("difference(-1)", x.difference(-1), BAD);
        Due.due("difference(201)", x.difference(201), BAD);
        Due.due("difference(200)", x.difference(200), NONE);
        // a byte 0 and no byte are different
        StructureEditor y = new StructureEditor();
        Due.bytes(y, 0);
        Due.due("difference of 0 and none", y.difference(0), 0);
    }

    private static int distance(String from, String to) {
        StructureEditor x = new StructureEditor();
        for (int i = 0; i < from.length(); i++) {
            x.insert(i, from.charAt(i), 1);
        }
        x.mark();
        if (!from.isEmpty()) {
            x.delete(0, from.length());
        }
        for (int i = 0; i < to.length(); i++) {
            x.insert(i, to.charAt(i), 1);
        }
        return x.distance();
    }

    private static void distances() {
        Due.due("distance of nothing", distance("", ""), 0);
        Due.due("distance to nothing", distance("abc", ""), 3);
        Due.due("distance from nothing", distance("", "abcd"), 4);
        Due.due("distance of the same", distance("abc", "abc"), 0);
        Due.due("kitten, sitting", distance("kitten", "sitting"), 3);
        Due.due("sitting, kitten", distance("sitting", "kitten"), 3);
        Due.due("saturday, sunday", distance("saturday", "sunday"), 3);
        Due.due("flaw, lawn", distance("flaw", "lawn"), 2);
        Due.due("intention, execution", distance("intention", "execution"), 5);
        Due.due("ab, ba", distance("ab", "ba"), 2);
        Due.due("200 and 200", distance("a".repeat(200), "b".repeat(200)), 200);
        Due.due("a shift by one", distance("ab".repeat(100), "ba".repeat(100)), 2);
    }

    private static void counting() {
        StructureEditor x = new StructureEditor();
        Due.due("count(-1)", x.count(-1), BAD);
        Due.due("count(8)", x.count(8), BAD);
        x.insert(0, 3, 10);
        Due.define(x, 0, "a:u1;k:x(a,a);l:s(k,k);", 3);
        x.lay(0, 0, 0);
        x.lay(3, 0, 2);
        x.overwrite(9, 1);
        x.undo();
        x.copy(1, 6);
        x.mark();
        x.type(97);
        x.type(98);
        x.follow(true);
        int[] want = {2, 2, 3, 1, 6, 10, 2, 1};
        for (int what = 0; what < want.length; what++) {
            Due.due("count(" + what + ")", x.count(what), want[what]);
        }
    }

    /** The digest as the document tells it, from the answers of the other methods. */
    private static long digest(StructureEditor x) {
        long h = 31 * 11 + x.length();
        for (int at = 0; at < x.length(); at++) {
            h = 31 * h + x.byteAt(at);
        }
        for (int overlay = 0; overlay < 4; overlay++) {
            if (x.overlay(overlay, 0) == BAD) {
                h = 31 * h - 1;
                continue;
            }
            for (int what = 0; what <= 5; what++) {
                h = 31 * h + x.overlay(overlay, what);
            }
            for (int i = 0; i < x.overlay(overlay, 2); i++) {
                for (int what = 0; what <= 6; what++) {
                    h = 31 * h + x.field(overlay, i, what);
                }
                h = 31 * h + x.value(overlay, i);
                for (int level = 0; level < x.field(overlay, i, 6); level++) {
                    h = 31 * h + x.path(overlay, i, level);
                }
            }
        }
        for (int template = 0; template < 4; template++) {
            h = 31 * h + x.items(template);
        }
        for (int what = 0; what <= 7; what++) {
            h = 31 * h + x.count(what);
        }
        return h;
    }

    private static void digesting() {
        StructureEditor x = new StructureEditor();
        Due.due("digest of a new object", x.digest(), digest(x));
        Due.bytes(x, 2, 255, 254, 7, 8, 9, 10, 11, 12, 13, 14, 15);
        Due.due("digest", x.digest(), digest(x));
        x = withOverlays();
        Due.due("digest", x.digest(), digest(x));
        x = withOverlays();
        x.follow(true);
        x.overwrite(1, 1);
        x.undo();
        x.copy(0, 3);
        x.mark();
        x.type(1);
        Due.due("digest", x.digest(), digest(x));
        Due.due("digest again", x.digest(), x.digest());
    }

    private static StructureEditor withOverlays() {
        StructureEditor x = new StructureEditor();
        Due.bytes(x, 2, 255, 254, 7, 8, 9, 10, 11, 12, 13, 14, 15);
        Due.define(x, 1, "n:u1;s:{a:i1;b:u1*2;}*n;k:c(n,s);", 5);
        Due.define(x, 3, "@3;a:i4<;k:x(a,a);z:u4;", 4);
        x.lay(0, 1, 0);
        x.lay(2, 3, 5);
        return x;
    }
}
