/** The boundary cases of history and comparison: promises 31 to 37 and what the description says of them. */
public final class HistoryBoundsTest {
    private static final int BAD = -1001, STATE = -1002, NONE = -1009;
    private static final int MIN = Integer.MIN_VALUE, MAX = Integer.MAX_VALUE;

    private HistoryBoundsTest() {
    }

    public static void main(String[] args) {
        undoOfNothing();
        redoOfNothing();
        undoAndRedoOfOne();
        twelveStates();
        thirteenthState();
        redoInAFullHistory();
        untilTheNextChange();
        whatIsNoChange();
        refusedCallsRecordNothing();
        templateAsItIsThen();
        markOfNothing();
        markOfAFullBuffer();
        markIsACopy();
        differenceFrom();
        differenceOfLengths();
        differenceOfBytes();
        distanceAtTheEnds();
        distanceOfOne();
        countOfNone();
        countsAtTheirEnds();
        digests();
        lastCall();
        Due.finish();
    }

    private static StructureEditor rich() {
        StructureEditor x = new StructureEditor();
        Refusal.rich(x);
        return x;
    }

    private static void withoutPast(StructureEditor x) {
        Refusal.rich(x);
        for (int n = 0; n < 8; n++) {
            x.undo();
        }
    }

    private static void withoutFuture(StructureEditor x) {
        Refusal.rich(x);
        x.redo();
        x.redo();
    }

    /** undo(): "STATE if there is none". */
    private static void undoOfNothing() {
        Due.due("undo of a new object", new StructureEditor().undo(), STATE);
        Refusal.refused("undo of a new object", x -> x.length(), x -> x.undo(), STATE);
        Refusal.refused("undo of all undone", HistoryBoundsTest::withoutPast, x -> x.undo(), STATE);
    }

    /** redo(): "STATE if there is none". */
    private static void redoOfNothing() {
        Due.due("redo of a new object", new StructureEditor().redo(), STATE);
        Refusal.refused("redo of a new object", x -> x.length(), x -> x.redo(), STATE);
        Refusal.refused("redo of all redone", HistoryBoundsTest::withoutFuture, x -> x.redo(), STATE);
        Refusal.refused("redo behind a change", x -> {
            Refusal.rich(x);
            x.overwrite(0, 7);
        }, x -> x.redo(), STATE);
    }

    /** undo(): "Returns how many more can be undone"; redo(): "Returns how many more can be redone". */
    private static void undoAndRedoOfOne() {
        StructureEditor x = new StructureEditor();
        x.insert(0, 9, 1);
        for (int n = 0; n < 3; n++) {
            Due.due("undo of one", x.undo(), 0);
            Due.due("length()", x.length(), 0);
            Due.due("undo of none", x.undo(), STATE);
            Due.due("redo of one", x.redo(), 0);
            Due.due("length()", x.length(), 1);
            Due.due("redo of none", x.redo(), STATE);
        }
    }

    /** Inserts the numbers from 1 on, a change each. */
    private static StructureEditor changed(int changes) {
        StructureEditor x = new StructureEditor();
        change(x, changes);
        return x;
    }

    private static void change(StructureEditor x, int changes) {
        for (int n = 1; n <= changes; n++) {
            Due.due("insert", x.insert(0, n, 1), n);
        }
    }

    private static void undoAll(StructureEditor x, int states, int length) {
        for (int n = states - 1; n >= 0; n--) {
            Due.due("undo", x.undo(), n);
            Due.due("length() after undo", x.length(), length - states + n);
        }
        Due.due("undo of no more", x.undo(), STATE);
        Due.due("length() stays", x.length(), length - states);
    }

    /** "A history of at most 12 states is kept: each change records the state before it". */
    private static void twelveStates() {
        for (int changes : new int[] {1, 11, 12}) {
            StructureEditor x = changed(changes);
            Due.due("count(2)", x.count(2), changes);
            undoAll(x, changes, changes);
            Due.due("count(3)", x.count(3), changes);
        }
    }

    /** "and when one more is recorded, the oldest one is dropped". */
    private static void thirteenthState() {
        for (int changes : new int[] {13, 14, 24, 25, 26, 60}) {
            StructureEditor x = changed(changes);
            Due.due("count(2)", x.count(2), 12);
            undoAll(x, 12, changes);
            Due.due("count(3)", x.count(3), 12);
            Due.due("the first byte of the oldest", x.byteAt(0), changes - 12);
            for (int n = 11; n >= 0; n--) {
                Due.due("redo", x.redo(), n);
                Due.due("byteAt(0) after redo", x.byteAt(0), changes - n);
            }
            Due.due("redo of no more", x.redo(), STATE);
        }
        Refusal.refused("undo of the dropped one", x -> {
            change(x, 13);
            for (int n = 0; n < 12; n++) {
                x.undo();
            }
        }, x -> x.undo(), STATE);
    }

    /** "redo() restores such a state, and records the one that it leaves in the history": never more than 12. */
    private static void redoInAFullHistory() {
        StructureEditor x = changed(20);
        for (int n = 0; n < 30; n++) {
            Due.due("undo", x.undo(), 11);
            Due.due("redo", x.redo(), 0);
        }
        Due.due("count(2)", x.count(2), 12);
        for (int n = 0; n < 5; n++) {
            x.undo();
        }
        Due.due("three redone", x.redo() + x.redo() + x.redo(), 4 + 3 + 2);
        Due.due("count(2)", x.count(2), 10);
        Due.due("count(3)", x.count(3), 2);
        Due.due("a change", x.insert(0, 99, 1), 19);
        Due.due("count(2)", x.count(2), 11);
        undoAll(x, 11, 19);
    }

    /** "the state that it leaves is kept for redo(), until the next change". */
    private static void untilTheNextChange() {
        String[] names = {"insert", "delete", "overwrite", "paste", "pasteOver", "setField", "lay", "remove", "refresh"};
        for (int n = 0; n < names.length; n++) {
            StructureEditor x = rich();
            Due.due("before " + names[n], x.count(3), 2);
            Due.due(names[n] + " has no error", changing(x, n) >= 0 ? 1 : 0, 1);
            Due.due("after " + names[n], x.count(3), 0);
            Due.due("redo after " + names[n], x.redo(), STATE);
            Due.due("one more to undo after " + names[n], x.count(2), 9);
        }
    }

    private static long changing(StructureEditor x, int change) {
        switch (change) {
            case 0:
                return x.insert(0, 0, 1);
            case 1:
                return x.delete(0, 1);
            case 2:
                return x.overwrite(0, x.byteAt(0));
            case 3:
                return x.paste(0);
            case 4:
                return x.pasteOver(0);
            case 5:
                return x.setField(0, 0, x.value(0, 0));
            case 6:
                return x.lay(0, 0, 0);
            case 7:
                return x.remove(0);
            default:
                return x.refresh();
        }
    }

    /** What is no change records nothing, and keeps what can be redone. */
    private static void whatIsNoChange() {
        StructureEditor x = rich();
        x.type('a');
        x.clearText();
        x.templateFault();
        x.patternFault();
        x.define(2);
        x.follow(true);
        x.follow(false);
        x.copy(0, 1);
        x.mark();
        x.find(0);
        x.matches();
        x.difference(0);
        x.distance();
        x.digest();
        x.repair(3, 1);
        x.expected(3, 1);
        x.counterpart(0, 0, 3);
        Due.due("count(2)", x.count(2), 8);
        Due.due("count(3)", x.count(3), 2);
        Due.due("redo", x.redo(), 1);
        Due.due("redo", x.redo(), 0);
        Due.due("the last change is the removal", x.overlay(3, 0), BAD);
    }

    /** A change that is refused records nothing, in an empty, a partly filled and a full history. */
    private static void refusedCallsRecordNothing() {
        for (int changes : new int[] {0, 1, 11, 12, 13}) {
            Refusal.Run before = x -> change(x, changes);
            Refusal.refused("insert", before, x -> x.insert(-1, 0, 1), BAD);
            Refusal.refused("delete", before, x -> x.delete(0, 99), BAD);
            Refusal.refused("overwrite", before, x -> x.overwrite(99, 0), BAD);
            Refusal.refused("paste", before, x -> x.paste(0), STATE);
            Refusal.refused("pasteOver", before, x -> x.pasteOver(0), STATE);
            Refusal.refused("setField", before, x -> x.setField(0, 0, 0), BAD);
            Refusal.refused("lay", before, x -> x.lay(0, 0, 99), BAD);
            Refusal.refused("remove", before, x -> x.remove(0), BAD);
        }
    }

    /** "The templates are no part of the state: an overlay that is restored uses its template as it is then." */
    private static void templateAsItIsThen() {
        StructureEditor x = new StructureEditor();
        x.insert(0, 5, 4);
        Due.define(x, 1, "a:u1;k:x(a,a);", 2);
        Due.due("lay", x.lay(2, 1, 4), 0);
        x.delete(0, 4);
        x.remove(2);
        Due.define(x, 1, "", 0);
        Due.due("undo", x.undo(), 3);
        Due.due("its template is empty", x.overlay(2, 2), 0);
        Due.due("and not broken", x.overlay(2, 3), 0);
        Due.due("its offset", x.overlay(2, 1), 0);
        Due.due("undo", x.undo(), 2);
        Due.due("its offset", x.overlay(2, 1), 4);
        Due.due("items stay", x.items(1), 0);
        Due.text(x, "z:u2;");
        Due.due("define of a template that is in use again", x.define(1), STATE);
        Due.due("undo", x.undo(), 1);
        Due.due("define of it", x.define(1), 1);
        Due.due("redo", x.redo(), 2);
        Due.due("broken at the length", x.overlay(2, 3), 1);
        Due.due("undo and redo leave the items", x.items(1), 1);
    }

    /** mark(): "Returns the length of the buffer.": 0. */
    private static void markOfNothing() {
        StructureEditor x = new StructureEditor();
        Due.due("mark of an empty buffer", x.mark(), 0);
        x.insert(0, 1, 3);
        Due.due("distance() from nothing", x.distance(), 3);
        Due.due("mark", x.mark(), 3);
        x.delete(0, 3);
        Due.due("distance() to nothing", x.distance(), 3);
        Due.due("mark of an empty buffer again", x.mark(), 0);
        Due.due("count(5)", x.count(5), 0);
        Due.due("difference(0)", x.difference(0), NONE);
        Due.due("distance()", x.distance(), 0);
        Due.due("mark is no change", x.count(2), 2);
    }

    private static StructureEditor full(int value) {
        StructureEditor x = new StructureEditor();
        for (int n = 0; n < 4; n++) {
            x.insert(0, value, 50);
        }
        return x;
    }

    /** mark(): 200 bytes. */
    private static void markOfAFullBuffer() {
        StructureEditor x = full(7);
        Due.due("mark of a full buffer", x.mark(), 200);
        Due.due("count(5)", x.count(5), 200);
        Due.due("difference(0)", x.difference(0), NONE);
        x.overwrite(199, 8);
        Due.due("the last byte", x.difference(0), 199);
        Due.due("from the last byte on", x.difference(199), 199);
        Due.due("behind the last byte", x.difference(200), NONE);
        Due.due("distance()", x.distance(), 1);
    }

    /** "a copy of the buffer at the time of the latest call of mark()". */
    private static void markIsACopy() {
        StructureEditor x = new StructureEditor();
        Due.bytes(x, 1, 2, 3);
        x.mark();
        x.overwrite(0, 9);
        Due.due("difference", x.difference(0), 0);
        x.undo();
        Due.due("no difference after undo", x.difference(0), NONE);
        x.redo();
        x.mark();
        Due.due("no difference after the latest mark", x.difference(0), NONE);
        x.undo();
        Due.due("a difference after undo", x.difference(0), 0);
        Due.due("undo leaves the mark", x.count(5), 3);
    }

    /** difference(): "from: the least position that is considered, 0 to 200". */
    private static void differenceFrom() {
        StructureEditor x = full(7);
        Due.due("difference(0)", x.difference(0), 0);
        Due.due("difference(199)", x.difference(199), 199);
        Due.due("difference(200)", x.difference(200), NONE);
        for (int from : new int[] {-1, 201, MIN, MAX}) {
            Due.due("difference(" + from + ") of a full buffer", x.difference(from), BAD);
            Refusal.refused("difference(" + from + ")", Refusal::rich, y -> y.difference(from), BAD);
        }
        StructureEditor y = new StructureEditor();
        Due.due("difference(0) of nothing", y.difference(0), NONE);
        Due.due("difference(200) of nothing", y.difference(200), NONE);
        Due.due("difference(201) of nothing", y.difference(201), BAD);
        Due.due("difference(-1) of nothing", y.difference(-1), BAD);
    }

    /** "at positions that only one of them has they differ". */
    private static void differenceOfLengths() {
        StructureEditor x = new StructureEditor();
        x.insert(0, 0, 5);
        x.mark();
        x.insert(5, 0, 2);
        Due.due("the buffer is longer", x.difference(0), 5);
        Due.due("from 6 on", x.difference(6), 6);
        Due.due("from 7 on", x.difference(7), NONE);
        x.delete(0, 3);
        Due.due("the mark is longer", x.difference(0), 4);
        Due.due("from 5 on", x.difference(5), NONE);
        x.delete(0, 4);
        Due.due("the mark alone", x.difference(0), 0);
        Due.due("the mark alone, from 4 on", x.difference(4), 4);
        Due.due("behind the mark", x.difference(5), NONE);
        StructureEditor y = full(0);
        y.mark();
        y.delete(0, 64);
        Due.due("the end of a shorter buffer", y.difference(0), 136);
        Due.due("the last of the mark", y.difference(199), 199);
    }

    /** "Returns the next position at which the buffer and the mark differ": bytes 0 and 255, too. */
    private static void differenceOfBytes() {
        StructureEditor x = new StructureEditor();
        Due.bytes(x, 0, 255, 0, 255, 128);
        x.mark();
        x.overwrite(1, 0);
        x.overwrite(2, 255);
        x.overwrite(4, 127);
        int[] want = {1, 1, 2, 4, 4, NONE};
        for (int from = 0; from < want.length; from++) {
            Due.due("difference(" + from + ")", x.difference(from), want[from]);
        }
    }

    /** "the least number of insertions, deletions and replacements of single bytes": 0 to 200. */
    private static void distanceAtTheEnds() {
        Due.due("nothing and nothing", new StructureEditor().distance(), 0);
        Due.due("nothing and 200", full(7).distance(), 200);
        StructureEditor x = full(7);
        x.mark();
        Due.due("200 and the same", x.distance(), 0);
        for (int n = 0; n < 4; n++) {
            x.delete(0, 50);
        }
        Due.due("200 and nothing", x.distance(), 200);
        for (int n = 0; n < 4; n++) {
            x.insert(0, 8, 50);
        }
        Due.due("200 and 200 others", x.distance(), 200);
        x.delete(0, 1);
        Due.due("200 and 199 others", x.distance(), 200);
        x.insert(0, 7, 1);
        Due.due("200 and 199 others with one that is the same", x.distance(), 199);
    }

    /** One insertion, one deletion, one replacement, at each end and in the middle. */
    private static void distanceOfOne() {
        for (int at : new int[] {0, 3, 5}) {
            StructureEditor x = new StructureEditor();
            Due.bytes(x, 0, 1, 2, 3, 4, 5);
            x.mark();
            x.overwrite(at, 9);
            Due.due("a replacement at " + at, x.distance(), 1);
            x.undo();
            x.delete(at, 1);
            Due.due("a deletion at " + at, x.distance(), 1);
            x.insert(at, 9, 1);
            Due.due("a deletion and an insertion at " + at, x.distance(), 1);
            x.undo();
            x.undo();
            x.insert(at, 9, 1);
            Due.due("an insertion at " + at, x.distance(), 1);
            x.insert(6 - at, 9, 1);
            Due.due("two insertions", x.distance(), 2);
        }
        StructureEditor y = new StructureEditor();
        Due.bytes(y, 0, 1, 2, 3);
        y.mark();
        y.delete(0, 1);
        y.insert(3, 0, 1);
        Due.due("a byte that goes from one end to the other", y.distance(), 2);
        Due.due("no mark at all", changed(3).distance(), 3);
    }

    /** count(): "BAD if what is out of range": 0 to 7. */
    private static void countOfNone() {
        for (int what : new int[] {-1, 8, 9, MIN, MAX}) {
            Refusal.refused("count(" + what + ")", Refusal::rich, x -> x.count(what), BAD);
        }
        int[] want = {2, 1, 8, 2, 3, 9, 7, 0};
        StructureEditor x = rich();
        for (int what = 0; what <= 7; what++) {
            Due.due("count(" + what + ")", x.count(what), want[what]);
        }
    }

    /** The least and the greatest answers of count(). */
    private static void countsAtTheirEnds() {
        StructureEditor x = new StructureEditor();
        for (int what = 0; what <= 7; what++) {
            Due.due("count(" + what + ") of a new object", x.count(what), 0);
        }
        for (int n = 0; n < 4; n++) {
            x.insert(0, 1, 50);
        }
        Due.define(x, 0, "s:{e:{};k:x(e,e);}*60;", 3);
        for (int overlay = 0; overlay < 4; overlay++) {
            Due.due("lay", x.lay(overlay, 0, 10 * overlay), 60);
        }
        Due.due("count(0)", x.count(0), 4);
        Due.due("count(1)", x.count(1), 240);
        for (int n = 0; n < 12; n++) {
            x.overwrite(199, n);
        }
        Due.due("count(2)", x.count(2), 12);
        for (int n = 0; n < 12; n++) {
            x.undo();
        }
        Due.due("count(2)", x.count(2), 0);
        Due.due("count(3)", x.count(3), 12);
        x.copy(0, 32);
        x.mark();
        Due.text(x, "z".repeat(120));
        x.follow(true);
        int[] want = {4, 240, 0, 12, 32, 200, 120, 1};
        for (int what = 0; what <= 7; what++) {
            Due.due("count(" + what + ") at its most", x.count(what), want[what]);
        }
    }

    /** Objects that have all had the same calls; each is asked a part of what one object may be asked. */
    private static final class Asked {
        private final Refusal.Run before;
        private StructureEditor x;
        private int calls;

        Asked(Refusal.Run before) {
            this.before = before;
            renew();
        }

        private void renew() {
            x = new StructureEditor();
            before.on(x);
            calls = 0;
        }

        StructureEditor next() {
            calls++;
            if (calls > 200) {
                renew();
            }
            return x;
        }
    }

    private static long digestOverlay(long start, Asked x, int overlay) {
        long h = start;
        for (int what = 0; what <= 5; what++) {
            h = 31 * h + x.next().overlay(overlay, what);
        }
        int fields = x.next().overlay(overlay, 2);
        for (int i = 0; i < fields; i++) {
            for (int what = 0; what <= 6; what++) {
                h = 31 * h + x.next().field(overlay, i, what);
            }
            h = 31 * h + x.next().value(overlay, i);
            int names = x.next().field(overlay, i, 6);
            for (int level = 0; level < names; level++) {
                h = 31 * h + x.next().path(overlay, i, level);
            }
        }
        return h;
    }

    /** "in long arithmetic with overflow". */
    private static long digest(Asked x) {
        int length = x.next().length();
        long h = 31 * 11 + length;
        for (int at = 0; at < length; at++) {
            h = 31 * h + x.next().byteAt(at);
        }
        for (int overlay = 0; overlay < 4; overlay++) {
            h = x.next().overlay(overlay, 0) == BAD ? 31 * h - 1 : digestOverlay(h, x, overlay);
        }
        for (int template = 0; template < 4; template++) {
            h = 31 * h + x.next().items(template);
        }
        for (int what = 0; what <= 7; what++) {
            h = 31 * h + x.next().count(what);
        }
        return h;
    }

    private static void largest(StructureEditor x) {
        for (int n = 0; n < 4; n++) {
            x.insert(0, 255 - n, 50);
        }
        Due.define(x, 0, "a:i1*60;b:u1;", 2);
        Due.define(x, 1, "s:{t:{b:{i:i2<;k:c(i,i);};};}*30;", 5);
        Due.define(x, 2, "a:{.99;};b:u4;c:i4<;d:x(a,a);e:s(a,b);", 6);
        Due.define(x, 3, ".999;@998;a:u1;", 3);
        for (int overlay = 0; overlay < 4; overlay++) {
            x.lay(overlay, overlay, overlay == 3 ? 200 : overlay);
        }
        x.copy(0, 32);
        x.mark();
        Due.text(x, "?");
    }

    /** digest(): of an empty object, of one with something of all, and of one that is full. */
    private static void digests() {
        Refusal.Run[] runs = {x -> x.length(), Refusal::rich, Refusal::richAndFollowing, HistoryBoundsTest::withoutPast,
            HistoryBoundsTest::largest};
        for (Refusal.Run run : runs) {
            StructureEditor x = new StructureEditor();
            run.on(x);
            Due.due("digest()", x.digest(), digest(new Asked(run)));
            Due.due("digest() again", x.digest(), digest(new Asked(run)));
        }
        long h = 11;
        int[] empty = {0, -1, -1, -1, -1, 0, 0, 0, 0, 0, 0, 0, 0, 0, 0, 0, 0};
        for (int v : empty) {
            h = 31 * h + v;
        }
        Due.due("digest() of a new object", new StructureEditor().digest(), h);
    }

    /** "An object is used for at most 512 calls": the 512th is answered as the first ones are. */
    private static void lastCall() {
        StructureEditor x = new StructureEditor();
        for (int n = 0; n < 170; n++) {
            Due.due("insert", x.insert(n, n, 1), n + 1);
            Due.due("refresh", x.refresh(), 0);
            Due.due("byteAt", x.byteAt(n), n);
        }
        Due.due("the 511th call", x.undo(), 11);
        Due.due("the 512th call", x.undo(), 10);
    }
}
