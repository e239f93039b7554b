/** Promises 27 to 30: following, refreshing, expected values and repairs. */
public final class CheckTest {
    private static final int BAD = -1001, STATE = -1002, RANGE = -1004, UNSTABLE = -1005, NONE = -1009;
    private static final String COPIES = "s:{a:u1;k:x(a,a);}*";

    private CheckTest() {
    }

    public static void main(String[] args) {
        switching();
        expecting();
        following();
        rounds();
        unstable();
        unstableChangesNothing();
        turns();
        repairing();
        repairingByTrial();
        Due.finish();
    }

    private static void switching() {
        StructureEditor x = new StructureEditor();
        Due.due("follow(false)", x.follow(false), 0);
        Due.due("follow(true)", x.follow(true), 0);
        Due.due("count(7)", x.count(7), 1);
        Due.due("follow(true) again", x.follow(true), 1);
        Due.due("follow(false)", x.follow(false), 1);
        Due.due("count(7)", x.count(7), 0);
        Due.bytes(x, 5, 1);
        Due.define(x, 0, "a:u1;k:x(a,a);", 2);
        Due.due("lay", x.lay(0, 0, 0), 2);
        Due.due("follow(true)", x.follow(true), 0);
        Due.due("follow is no change", x.count(2), 3);
        Due.due("follow updates no check", x.byteAt(1), 1);
        Due.due("overlay(0,5)", x.overlay(0, 5), 1);
    }

    private static void expecting() {
        StructureEditor x = new StructureEditor();
        Due.bytes(x, '1', '2', '3', '4', '5', '6', '7', '8', '9');
        x.insert(9, 0, 12);
        Due.define(x, 0, "a:u1*9;e:{};k:x(a,a);l:s(a,a);m:c(a,a);n:x(e,e);o:s(e,e);p:c(e,e);", 8);
        Due.due("lay", x.lay(0, 0, 0), 15);
        Due.due("expected of x", x.expected(0, 9), 0x31);
        Due.due("expected of s", x.expected(0, 10), 477);
        Due.due("expected of c", x.expected(0, 11), 0x29b1);
        Due.due("expected of an empty x", x.expected(0, 12), 0);
        Due.due("expected of an empty s", x.expected(0, 13), 0);
        Due.due("expected of an empty c", x.expected(0, 14), 65535);
        Due.due("expected of an integer", x.expected(0, 0), NONE);
        Due.due("expected(0,15)", x.expected(0, 15), BAD);
        Due.due("expected(0,-1)", x.expected(0, -1), BAD);
        Due.due("expected(1,0)", x.expected(1, 0), BAD);
        Due.due("expected(-1,0)", x.expected(-1, 0), BAD);
        Due.due("wrong fields", x.overlay(0, 5), 4);
        Due.due("count(1)", x.count(1), 4);
        Due.due("lay(3)", x.lay(3, 0, 0), 15);
        Due.due("count(1) of two overlays", x.count(1), 8);
        Due.due("refresh", x.refresh(), 1);
        Due.due("count(1) after refresh", x.count(1), 0);
        Due.due("byteAt(10): big-endian", x.byteAt(10), 1);
        Due.due("byteAt(11)", x.byteAt(11), 221);
        Due.due("value of c", x.value(0, 11), 0x29b1);
        Due.due("refresh again", x.refresh(), 0);
    }

    /** Each kind of change updates the checks at its end, as a part of it. */
    private static void following() {
        StructureEditor x = new StructureEditor();
        Due.define(x, 0, "a:u2;k:s(a,a);", 2);
        x.insert(0, 0, 8);
        Due.due("lay", x.lay(0, 0, 0), 2);
        x.follow(true);
        Due.due("overwrite", x.overwrite(1, 7), 0);
        Due.buffer("after overwrite", x, 0, 7, 0, 7, 0, 0, 0, 0);
        Due.due("setField", x.setField(0, 0, 0x0203), 2);
        Due.buffer("after setField", x, 2, 3, 0, 5, 0, 0, 0, 0);
        Due.due("setField of the check", x.setField(0, 1, 99), 2);
        Due.due("it gets its expected value at once", x.value(0, 1), 5);
        Due.due("setField of the check", x.setField(0, 1, 65536), RANGE);
        Due.due("overwrite of a byte of the check: the previous byte", x.overwrite(3, 77), 5);
        Due.buffer("after overwrite of the check", x, 2, 3, 0, 5, 0, 0, 0, 0);
        Due.due("insert", x.insert(1, 9, 1), 9);
        Due.buffer("after insert", x, 2, 9, 0, 11, 5, 0, 0, 0, 0);
        Due.due("delete", x.delete(0, 1), 8);
        Due.buffer("after delete", x, 9, 0, 0, 9, 0, 0, 0, 0);
        Due.due("copy", x.copy(0, 1), 1);
        Due.due("pasteOver", x.pasteOver(1), 1);
        Due.buffer("after pasteOver", x, 9, 9, 0, 18, 0, 0, 0, 0);
        Due.due("paste", x.paste(0), 9);
        Due.buffer("after paste", x, 9, 9, 0, 18, 18, 0, 0, 0, 0);
        Due.due("lay(1,0,2)", x.lay(1, 0, 2), 2);
        Due.buffer("after lay", x, 9, 9, 0, 18, 0, 18, 0, 0, 0);
        x.follow(false);
        Due.due("overwrite", x.overwrite(0, 0), 9);
        Due.due("no update", x.count(1), 1);
        x.follow(true);
        Due.due("remove", x.remove(1), 2);
        Due.buffer("after remove", x, 0, 9, 0, 9, 0, 18, 0, 0, 0);
        Due.due("undo restores the bytes before the update, too", x.undo(), 11);
        Due.buffer("after undo", x, 0, 9, 0, 18, 0, 18, 0, 0, 0);
    }

    /** Overlay 1 copies each even byte to the next one, overlay 0, a byte behind it, each odd one. */
    private static StructureEditor chain(int evens, int odds) {
        StructureEditor x = new StructureEditor();
        x.insert(0, 0, 20);
        Due.define(x, 1, COPIES + evens + ";", 3);
        Due.define(x, 0, COPIES + odds + ";", 3);
        x.lay(1, 1, 0);
        x.lay(0, 0, 1);
        x.overwrite(0, 5);
        return x;
    }

    private static void rounds() {
        StructureEditor x = chain(1, 0);
        Due.due("refresh", x.refresh(), 1);
        Due.due("refresh is a change", x.count(2), 5);
        Due.due("undo", x.undo(), 4);
        Due.due("byteAt(1)", x.byteAt(1), 0);
        x = chain(2, 1);
        Due.due("refresh of two rounds", x.refresh(), 2);
        Due.due("byteAt(3)", x.byteAt(3), 5);
        x = chain(7, 6);
        Due.due("refresh of seven rounds", x.refresh(), 7);
        Due.due("byteAt(13)", x.byteAt(13), 5);
        Due.due("byteAt(14)", x.byteAt(14), 0);
        Due.due("refresh of no round", x.refresh(), 0);
        Due.due("refresh without a byte changed is a change", x.count(2), 6);
        StructureEditor y = new StructureEditor();
        Due.due("refresh of nothing", y.refresh(), 0);
        Due.due("count(2)", y.count(2), 1);
    }

    private static void unstable() {
        StructureEditor x = chain(7, 7);
        long before = x.digest();
        Due.due("refresh of eight rounds", x.refresh(), UNSTABLE);
        Due.due("nothing has changed", x.digest(), before);
        x = conflict();
        Due.due("lay that would conflict", x.lay(1, 1, 1), UNSTABLE);
        Due.due("overlay(1,0)", x.overlay(1, 0), BAD);
        x.follow(false);
        Due.due("lay without following", x.lay(1, 1, 1), 1);
        Due.due("refresh of a conflict", x.refresh(), UNSTABLE);
    }

    /** Byte 1 is to be a copy of byte 0; with an overlay of template 1 at 1 it is to be 0, too. */
    private static StructureEditor conflict() {
        StructureEditor x = new StructureEditor();
        Due.bytes(x, 5, 5, 0);
        Due.define(x, 0, "a:u1;k:x(a,a);", 2);
        Due.define(x, 1, "e:{};k:x(e,e);", 2);
        Due.define(x, 2, "b:u1;", 1);
        Due.due("lay", x.lay(0, 0, 0), 2);
        x.follow(true);
        return x;
    }

    private static void unstableChangesNothing() {
        StructureEditor x = conflict();
        x.overwrite(0, 0);
        Due.due("byteAt(1)", x.byteAt(1), 0);
        Due.due("lay(1,1,1) with zeros", x.lay(1, 1, 1), 1);
        Due.due("lay(2,2,0)", x.lay(2, 2, 0), 1);
        x.copy(0, 1);
        x.overwrite(2, 6);
        Due.due("undo", x.undo(), 7);
        long before = x.digest();
        Due.due("overwrite", x.overwrite(0, 1), UNSTABLE);
        Due.due("setField", x.setField(2, 0, 1), UNSTABLE);
        Due.due("RANGE before UNSTABLE", x.setField(2, 0, 256), RANGE);
        Due.due("nothing has changed", x.digest(), before);
        Due.due("what can be redone stays", x.redo(), 0);
        Due.due("byteAt(2)", x.byteAt(2), 6);
        x.copy(2, 1);
        before = x.digest();
        Due.due("pasteOver", x.pasteOver(0), UNSTABLE);
        Due.due("nothing has changed", x.digest(), before);
        // changes elsewhere that leave a conflict behind
        x.follow(false);
        x.overwrite(0, 3);
        x.follow(true);
        before = x.digest();
        Due.due("insert", x.insert(3, 1, 1), UNSTABLE);
        Due.due("paste", x.paste(2), UNSTABLE);
        Due.due("remove of another overlay", x.remove(2), UNSTABLE);
        Due.due("delete of another byte", x.delete(2, 1), UNSTABLE);
        Due.due("lay of another overlay", x.lay(3, 2, 2), UNSTABLE);
        Due.due("nothing has changed", x.digest(), before);
        Due.due("remove of the cause", x.remove(1), 1);
        Due.due("byteAt(1)", x.byteAt(1), 3);
    }

    /** The layout is that of the beginning of the turn, though a check changes a count in it. */
    private static void turns() {
        StructureEditor x = new StructureEditor();
        Due.bytes(x, 2, 0, 0, 7, 7, 7, 7);
        Due.define(x, 0, "a:u1;k:x(a,a);", 2);
        Due.define(x, 1, "n:u1;d:u1*n;k:x(d,d);", 3);
        Due.due("lay(0,0,0)", x.lay(0, 0, 0), 2);
        Due.due("lay(1,1,1)", x.lay(1, 1, 1), 2);
        // round 1: byte 1 becomes 2, then the layout of overlay 1 has two bytes of data and k at 4
        Due.due("refresh", x.refresh(), 1);
        Due.buffer("after refresh", x, 2, 2, 0, 7, 7, 7, 7);
        // the other order: overlay 0 lays n at 1 first and sees the old count in round 1
        StructureEditor y = new StructureEditor();
        Due.bytes(y, 2, 0, 9, 7, 1, 7, 7);
        Due.define(y, 0, "n:u1;d:u1*n;k:x(d,d);", 3);
        Due.define(y, 1, "a:u1;k:x(a,a);", 2);
        y.lay(0, 0, 1);
        y.lay(1, 1, 0);
        Due.due("refresh", y.refresh(), 2);
        Due.buffer("after refresh", y, 2, 2, 0, 7, 7, 7, 7);
        // checks of one layout see the bytes that earlier ones of the same turn have got
        StructureEditor z = new StructureEditor();
        Due.bytes(z, 5, 0, 0, 0);
        Due.define(z, 0, "a:u1;b:x(a,a);d:s(a,b);", 3);
        z.lay(0, 0, 0);
        Due.due("refresh", z.refresh(), 1);
        Due.buffer("after refresh", z, 5, 5, 0, 10);
    }

    private static void repairing() {
        StructureEditor x = new StructureEditor();
        Due.bytes(x, 1, 2, 250, 0);
        x.insert(4, 0, 10);
        Due.define(x, 0, "a:u1*3;b:x(a,a);d:s(a,a);e:{};f:s(e,e);", 5);
        Due.due("lay", x.lay(0, 0, 0), 6);
        Due.due("repair of an integer", x.repair(0, 0), STATE);
        Due.due("repair(0,6)", x.repair(0, 6), BAD);
        Due.due("repair(0,-1)", x.repair(0, -1), BAD);
        Due.due("repair(1,0)", x.repair(1, 0), BAD);
        Due.due("repair(4,0)", x.repair(4, 0), BAD);
        Due.due("repair of a right check", x.repair(0, 5), STATE);
        Due.due("repair of x: 2 ^ 250 at 0", x.repair(0, 3), 248);
        Due.due("repair of s without a way", x.repair(0, 4), NONE);
        Due.due("setField", x.setField(0, 4, 250), 6);
        Due.due("repair of s: only byte 2 can be less by 3", x.repair(0, 4), 2 * 256 + 247);
        Due.due("setField", x.setField(0, 4, 252), 6);
        Due.due("repair of s: byte 0 becomes 0", x.repair(0, 4), 0);
        Due.due("setField", x.setField(0, 4, 507), 6);
        Due.due("repair of s: byte 0 becomes 255", x.repair(0, 4), 255);
        Due.due("setField", x.setField(0, 4, 508), 6);
        Due.due("repair of s: no byte can be more by 255", x.repair(0, 4), NONE);
        Due.due("setField", x.setField(0, 5, 1), 6);
        Due.due("repair of an empty range", x.repair(0, 5), NONE);
        Due.due("repair is no change", x.count(2), 11);
        onlySixteen();
    }

    private static void onlySixteen() {
        StructureEditor x = new StructureEditor();
        x.insert(0, 0, 17);
        x.insert(17, 0, 2);
        Due.define(x, 0, "a:{.17;};b:s(a,a);", 3);
        Due.due("lay", x.lay(0, 0, 0), 1);
        x.overwrite(16, 1);
        Due.due("only the 17th byte could be less by 1", x.repair(0, 0), NONE);
        x.overwrite(16, 0);
        x.overwrite(15, 1);
        Due.due("the 16th byte", x.repair(0, 0), 15 * 256);
    }

    /** What repair() finds is what trying each byte finds. */
    private static void repairingByTrial() {
        String[] templates = {"a:{.20;};k:x(a,a);", "a:{.20;};k:s(a,a);", "a:{.20;};k:c(a,a);", "a:{.3;};k:c(a,a);"};
        java.util.Random random = new java.util.Random(5);
        for (int n = 0; n < 60; n++) {
            StructureEditor x = new StructureEditor();
            Due.define(x, 0, templates[n % templates.length], 3);
            for (int i = 0; i < 24; i++) {
                x.insert(0, random.nextInt(256), 1);
            }
            x.lay(0, 0, 1);
            x.refresh();
            int broken = 1 + random.nextInt(n % templates.length == 3 ? 3 : 19);
            x.overwrite(broken, x.byteAt(broken) ^ (1 + random.nextInt(255)));
            if (n % 3 == 0) {
                x.setField(0, 0, random.nextInt(256));
            }
            int got = x.repair(0, 0);
            Due.due("repair by trial", got, trial(x));
        }
    }

    private static int trial(StructureEditor x) {
        int value = (int) x.value(0, 0);
        if (x.overlay(0, 5) == 0) {
            return STATE;
        }
        int kind = x.field(0, 0, 2);
        int start = x.field(0, 0, 4);
        int[] range = new int[x.field(0, 0, 5) - start];
        for (int i = 0; i < range.length; i++) {
            range[i] = x.byteAt(start + i);
        }
        Due.due("expected as the trial computes it", x.expected(0, 0), check(kind, range));
        for (int i = 0; i < Math.min(range.length, 16); i++) {
            int had = range[i];
            for (int number = 0; number < 256; number++) {
                range[i] = number;
                if (check(kind, range) == value) {
                    return 256 * (start + i) + number;
                }
            }
            range[i] = had;
        }
        return NONE;
    }

    /** The expected value of a check of the kind 2 (x), 3 (s) or 4 (c). */
    private static int check(int kind, int[] range) {
        int result = kind == 4 ? 65535 : 0;
        for (int number : range) {
            if (kind == 2) {
                result ^= number;
            } else if (kind == 3) {
                result = (result + number) % 65536;
            } else {
                result ^= 256 * number;
                for (int i = 0; i < 8; i++) {
                    result = result >= 32768 ? (2 * result % 65536) ^ 4129 : 2 * result;
                }
            }
        }
        return result;
    }
}
