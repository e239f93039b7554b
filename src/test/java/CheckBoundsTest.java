/** The boundary cases of the checks: promises 27 to 30 and what the description says of updating them. */
public final class CheckBoundsTest {
    private static final int BAD = -1001, STATE = -1002, UNSTABLE = -1005, NONE = -1009;
    private static final int MIN = Integer.MIN_VALUE, MAX = Integer.MAX_VALUE;

    private CheckBoundsTest() {
    }

    public static void main(String[] args) {
        followTwice();
        followUpdatesNothing();
        expectedOfNone();
        expectedOfIntegers();
        expectedAtTheEdges();
        expectedOfC();
        wrongByOne();
        roundsOfRefresh();
        eighthRound();
        refreshWithFollowing();
        sevenRoundsOfEachChange();
        eightRoundsOfEachChange();
        eightRoundsInAFullHistory();
        notFollowing();
        ascendingOrder();
        orderOfTheList();
        beginningOfTheTurn();
        overlaysThatDisagree();
        brokenLayoutsAreUpdated();
        onlyPresentOverlaysAreUpdated();
        sixtyChecks();
        repairOfNone();
        repairOfNoWrongCheck();
        repairWithinSixteen();
        repairOfShortRanges();
        repairOfSums();
        repairOfXors();
        repairOfC();
        repairOfSeveral();
        Due.finish();
    }

    private static StructureEditor rich() {
        StructureEditor x = new StructureEditor();
        Refusal.rich(x);
        return x;
    }

    /** follow(): "Returns 1 if following was switched on before, otherwise 0." "This is no change". */
    private static void followTwice() {
        StructureEditor x = rich();
        Due.due("follow(false) when off", x.follow(false), 0);
        Due.due("follow(true) when off", x.follow(true), 0);
        Due.due("follow(true) when on", x.follow(true), 1);
        Due.due("follow(false) when on", x.follow(false), 1);
        Due.due("follow(false) when off", x.follow(false), 0);
        Due.due("it is no change", x.count(2), 8);
        Due.due("what can be redone stays", x.count(3), 2);
    }

    /** "the checks are not updated by it". */
    private static void followUpdatesNothing() {
        StructureEditor x = rich();
        Due.due("a wrong check", x.count(1), 1);
        x.follow(true);
        Due.due("after follow(true)", x.count(1), 1);
        x.follow(true);
        Due.due("after follow(true) again", x.count(1), 1);
        x.follow(false);
        Due.due("after follow(false)", x.count(1), 1);
        x.follow(true);
        Due.due("undo updates nothing", x.undo(), 7);
        Due.due("redo updates nothing", x.redo(), 2);
        Due.due("after undo and redo", x.count(1), 1);
        Due.due("overwrite", x.overwrite(11, 1), 2);
        Due.due("a change does", x.count(1), 0);
    }

    /** expected(): "BAD if there is no such field". */
    private static void expectedOfNone() {
        for (int overlay : new int[] {-1, 1, 2, 4, MIN, MAX}) {
            Refusal.refused("expected(" + overlay + ",0)", Refusal::rich, x -> x.expected(overlay, 0), BAD);
        }
        for (int i : new int[] {-1, 3, 60, MIN, MAX}) {
            Refusal.refused("expected(0," + i + ")", Refusal::rich, x -> x.expected(0, i), BAD);
        }
        Refusal.refused("expected(3,2)", Refusal::rich, x -> x.expected(3, 2), BAD);
    }

    /** expected(): "NONE if it is not a check field". */
    private static void expectedOfIntegers() {
        StructureEditor x = new StructureEditor();
        x.insert(0, 1, 40);
        Due.define(x, 0, "a:u1;b:i1;c:u2;d:i2<;e:u4<;f:i4;g:x(a,a);h:u1*2;", 8);
        Due.due("lay", x.lay(0, 0, 0), 9);
        for (int i = 0; i < 9; i++) {
            Due.due("expected(0," + i + ")", x.expected(0, i), i == 6 ? 1 : NONE);
        }
        Due.due("expected(0,9)", x.expected(0, 9), BAD);
    }

    /** The checks over some bytes, with gaps so that all three see these alone. */
    private static StructureEditor checked(int... bytes) {
        StructureEditor x = new StructureEditor();
        for (int i = 0; i < bytes.length; i++) {
            x.insert(i, bytes[i], 1);
        }
        x.insert(bytes.length, 0, 5);
        Due.define(x, 0, "a:{." + bytes.length + ";};x:x(a,a);s:s(a,a);c:c(a,a);", 5);
        Due.due("lay", x.lay(0, 0, 0), 3);
        return x;
    }

    private static void expected(int xor, int sum, int crc, int... bytes) {
        StructureEditor x = checked(bytes);
        Due.due("x of " + bytes.length, x.expected(0, 0), xor);
        Due.due("s of " + bytes.length, x.expected(0, 1), sum);
        Due.due("c of " + bytes.length, x.expected(0, 2), crc);
    }

    /** "for x their exclusive or; for s their sum modulo 65536; for c a register that begins as 65535". */
    private static void expectedAtTheEdges() {
        expected(0, 0, 65535);
        expected(0, 0, 0xe1f0, 0);
        expected(255, 255, 0xff00, 255);
        expected(128, 128, 0x7078, 128);
        expected(0, 510, 0, 255, 255);
        expected(255, 255, 0x1ef0, 255, 0);
        // the register is 32768, 32767 and 32769 before a doubling
        expected(128, 382, 37256, 255, 127);
        expected(64, 446, 18628, 255, 191);
        expected(61, 65, 36631, 50, 15);
        expected(163, 331, 16524, 84, 247);
        expected(0x31, 477, 0x29b1, '1', '2', '3', '4', '5', '6', '7', '8', '9');
    }

    /** The register of c, step by step as the document tells it, over each single byte. */
    private static void expectedOfC() {
        StructureEditor x = checked(0);
        for (int value = 0; value < 256; value++) {
            long register = 65535 ^ (256L * value);
            for (int n = 0; n < 8; n++) {
                boolean isGreat = register >= 32768;
                register = register * 2 % 65536;
                register = isGreat ? register ^ 4129 : register;
            }
            if (value % 100 == 99) {
                x = checked(0);
            }
            x.overwrite(0, value);
            Due.due("c of the byte " + value, x.expected(0, 2), register);
        }
    }

    /** "A check field is wrong if its value is not the expected one.": one more, one less, its bytes exchanged. */
    private static void wrongByOne() {
        StructureEditor x = checked(200, 100);
        x.refresh();
        Due.due("none is wrong", x.overlay(0, 5), 0);
        for (int i = 0; i < 3; i++) {
            long right = x.value(0, i);
            for (long value : new long[] {right - 1, right + 1, right ^ (i == 0 ? 128 : 32768)}) {
                x.setField(0, i, value);
                Due.due("wrong checks", x.overlay(0, 5), 1);
                Due.due("count(1)", x.count(1), 1);
            }
            x.setField(0, i, right);
            Due.due("right again", x.overlay(0, 5), 0);
        }
        x.setField(0, 1, 300 % 256 * 256 + 300 / 256);
        Due.due("bytes exchanged", x.overlay(0, 5), 1);
    }

    /**
     * 30 bytes of which overlay 1 copies each even one to the next, overlay 0, a byte behind, each odd one; the
     * first byte has been changed since, so that updating needs a round for two bytes. Overlay 2 has the byte 20.
     */
    private static void chain(StructureEditor x, int evens, int odds) {
        Due.define(x, 0, "s:{a:u1;k:x(a,a);}*" + odds + ";", 3);
        Due.define(x, 1, "s:{a:u1;k:x(a,a);}*" + evens + ";", 3);
        Due.define(x, 2, "z:u1;", 1);
        x.insert(0, 0, 30);
        x.lay(0, 0, 1);
        x.lay(1, 1, 0);
        x.lay(2, 2, 20);
        x.copy(18, 2);
        x.mark();
        x.overwrite(0, 5);
        x.overwrite(29, 3);
        Due.due("undo", x.undo(), 5);
    }

    private static void sevenRounds(StructureEditor x) {
        chain(x, 7, 6);
    }

    private static void eightRounds(StructureEditor x) {
        chain(x, 7, 7);
    }

    private static void eightRoundsFollowing(StructureEditor x) {
        eightRounds(x);
        x.follow(true);
    }

    /** refresh(): "Returns the number of rounds that changed a byte", 0 to 7. */
    private static void roundsOfRefresh() {
        StructureEditor x = new StructureEditor();
        Due.due("refresh of a new object", x.refresh(), 0);
        Due.due("it is a change", x.count(2), 1);
        for (int rounds = 0; rounds <= 7; rounds++) {
            x = new StructureEditor();
            chain(x, rounds, Math.max(rounds - 1, 0));
            Due.due("refresh of " + rounds + " rounds", x.refresh(), rounds);
            Due.due("it is a change", x.count(2), 6);
            Due.due("nothing to redo", x.count(3), 0);
            Due.due("the last copy", x.byteAt(Math.max(2 * rounds - 1, 0)), 5);
            Due.due("no byte behind it", x.byteAt(2 * rounds), rounds == 0 ? 5 : 0);
            Due.due("no wrong check", x.count(1), 0);
            Due.due("refresh again", x.refresh(), 0);
            Due.due("it is a change, too", x.count(2), 7);
            x.undo();
            x.undo();
            Due.due("undo of the refresh", x.count(1), rounds == 0 ? 0 : 1);
        }
    }

    /** "at most 8 rounds. If the 8th round changes a byte, the checks are unstable." */
    private static void eighthRound() {
        Refusal.refused("refresh of 8 rounds", CheckBoundsTest::eightRounds, x -> x.refresh(), UNSTABLE);
        Refusal.refused("refresh of 9 rounds", x -> chain(x, 8, 8), x -> x.refresh(), UNSTABLE);
        Refusal.refused("refresh of 10 rounds", x -> chain(x, 9, 9), x -> x.refresh(), UNSTABLE);
        StructureEditor x = new StructureEditor();
        eightRounds(x);
        Due.due("refresh", x.refresh(), UNSTABLE);
        Due.due("no byte has changed", x.byteAt(1), 0);
        Due.due("what can be redone stays", x.count(3), 1);
        Due.due("one copy by hand", x.overwrite(1, 5), 0);
        Due.due("one more", x.overwrite(2, 5), 0);
        Due.due("refresh of what is left", x.refresh(), 7);
        Due.due("the last copy", x.byteAt(14), 5);
    }

    /** refresh(): "whether following is switched on or not". */
    private static void refreshWithFollowing() {
        StructureEditor x = new StructureEditor();
        sevenRounds(x);
        x.follow(true);
        Due.due("refresh, following", x.refresh(), 7);
        Refusal.refused("refresh of 8 rounds, following", CheckBoundsTest::eightRoundsFollowing,
                y -> y.refresh(), UNSTABLE);
    }

    private static final String[] CHANGES = {"insert", "delete", "overwrite", "paste", "pasteOver", "lay", "remove",
        "setField", "refresh"};

    /** Each change, away from the bytes of the chain. */
    private static long change(StructureEditor x, String name) {
        switch (name) {
            case "insert":
                return x.insert(30, 1, 1);
            case "delete":
                return x.delete(29, 1);
            case "overwrite":
                return x.overwrite(25, 1);
            case "paste":
                return x.paste(30);
            case "pasteOver":
                return x.pasteOver(28);
            case "lay":
                return x.lay(3, 2, 21);
            case "remove":
                return x.remove(2);
            case "setField":
                return x.setField(2, 0, 9);
            default:
                return x.refresh();
        }
    }

    /** "If following is switched on, the checks are updated at the end of each change, as a part of it." */
    private static void sevenRoundsOfEachChange() {
        int[] answers = {31, 29, 0, 32, 2, 1, 20, 1, 7};
        for (int n = 0; n < CHANGES.length; n++) {
            StructureEditor x = new StructureEditor();
            sevenRounds(x);
            x.follow(true);
            Due.due(CHANGES[n] + " of 7 rounds", change(x, CHANGES[n]), answers[n]);
            Due.due("the last copy after " + CHANGES[n], x.byteAt(13), 5);
            Due.due("no wrong check after " + CHANGES[n], x.count(1), 0);
            Due.due("one change: " + CHANGES[n], x.count(2), 6);
            Due.due("undo of " + CHANGES[n], x.undo(), 5);
            Due.due("all of it is undone", x.byteAt(1), 0);
            Due.due("redo of " + CHANGES[n], x.redo(), 0);
            Due.due("all of it is redone", x.byteAt(13), 5);
        }
    }

    /** "If they are unstable then, the call returns UNSTABLE and changes nothing." */
    private static void eightRoundsOfEachChange() {
        for (String name : CHANGES) {
            Refusal.refused(name + " of 8 rounds", CheckBoundsTest::eightRoundsFollowing, x -> change(x, name), UNSTABLE);
        }
        // in place of what makes the checks unstable, a change is possible
        StructureEditor x = new StructureEditor();
        eightRoundsFollowing(x);
        Due.due("remove(0)", x.remove(0), 1);
        Due.due("byteAt(1)", x.byteAt(1), 5);
        x = new StructureEditor();
        eightRoundsFollowing(x);
        Due.due("lay(0,2,0)", x.lay(0, 2, 0), 1);
        Due.due("byteAt(1)", x.byteAt(1), 5);
        x = new StructureEditor();
        eightRoundsFollowing(x);
        Due.due("overwrite(0,0)", x.overwrite(0, 0), 5);
        Due.due("byteAt(1)", x.byteAt(1), 0);
        x = new StructureEditor();
        eightRoundsFollowing(x);
        Due.due("delete(0,1): the byte and its cause", x.delete(0, 1), 29);
    }

    private static void fullHistory(StructureEditor x) {
        eightRounds(x);
        for (int n = 0; n < 12; n++) {
            x.overwrite(29, n);
        }
        Due.due("a full history", x.count(2), 12);
        x.follow(true);
    }

    /** An unstable change drops no state of a full history, either. */
    private static void eightRoundsInAFullHistory() {
        for (String name : CHANGES) {
            Refusal.refused(name + " in a full history", CheckBoundsTest::fullHistory, x -> change(x, name), UNSTABLE);
        }
    }

    /** If following is not switched on, no change but refresh() updates the checks, nor is one UNSTABLE. */
    private static void notFollowing() {
        int[] answers = {31, 29, 0, 32, 2, 1, 20, 1, UNSTABLE};
        for (int n = 0; n < CHANGES.length; n++) {
            StructureEditor x = new StructureEditor();
            eightRounds(x);
            Due.due(CHANGES[n] + ", not following", change(x, CHANGES[n]), answers[n]);
            Due.due("no copy after " + CHANGES[n], x.byteAt(1), 0);
            Due.due("a wrong check after " + CHANGES[n], x.count(1), 1);
        }
    }

    /** "the present overlays are gone through in ascending order". */
    private static void ascendingOrder() {
        for (int overlay = 0; overlay < 3; overlay++) {
            StructureEditor x = new StructureEditor();
            Due.bytes(x, 5, 0, 0);
            Due.define(x, 0, "a:u1;k:x(a,a);", 2);
            x.lay(overlay, 0, 0);
            x.lay(overlay + 1, 0, 1);
            Due.due("refresh in the order of the bytes", x.refresh(), 1);
            Due.buffer("after refresh", x, 5, 5, 5);
            StructureEditor y = new StructureEditor();
            Due.bytes(y, 5, 0, 0);
            Due.define(y, 0, "a:u1;k:x(a,a);", 2);
            y.lay(overlay + 1, 0, 0);
            y.lay(overlay, 0, 1);
            Due.due("refresh against the order of the bytes", y.refresh(), 2);
            Due.buffer("after refresh", y, 5, 5, 5);
        }
    }

    /** "in the order of the list, each check field that is wrong gets its expected value, computed from the bytes as they are then". */
    private static void orderOfTheList() {
        StructureEditor x = new StructureEditor();
        Due.bytes(x, 5, 0, 0, 0, 0, 0, 0);
        Due.define(x, 0, "a:u1;b:x(a,a);d:s(a,b);e:x(b,d);f:s(a,e);", 5);
        Due.due("lay", x.lay(0, 0, 0), 5);
        Due.due("refresh", x.refresh(), 1);
        Due.buffer("after refresh", x, 5, 5, 0, 10, 5 ^ 10, 0, 5 + 5 + 10 + 15);
    }

    /** "the layout of each is computed at the beginning of its turn". */
    private static void beginningOfTheTurn() {
        StructureEditor x = new StructureEditor();
        Due.bytes(x, 2, 0, 8, 4, 9, 9);
        Due.define(x, 0, "a:u1;k:x(a,a);", 2);
        Due.define(x, 1, "n:u1;d:u1*n;k:x(d,d);", 3);
        x.lay(0, 0, 0);
        x.lay(1, 1, 1);
        Due.due("refresh: the count is 2 in the turn of overlay 1", x.refresh(), 1);
        Due.buffer("after refresh", x, 2, 2, 8, 4, 12, 9);
        StructureEditor y = new StructureEditor();
        Due.bytes(y, 2, 0, 8, 4, 9, 9);
        Due.define(y, 0, "a:u1;k:x(a,a);", 2);
        Due.define(y, 1, "n:u1;d:u1*n;k:x(d,d);", 3);
        y.lay(3, 0, 0);
        y.lay(2, 1, 1);
        Due.due("refresh: the count is 0 in the first turn of overlay 2", y.refresh(), 2);
        Due.buffer("after refresh", y, 2, 2, 0, 4, 4, 9);
    }

    private static void disagreeing(StructureEditor x) {
        Due.bytes(x, 5, 5, 0);
        Due.define(x, 0, "a:u1;k:x(a,a);", 2);
        Due.define(x, 1, "e:{};k:x(e,e);", 2);
        x.lay(0, 0, 0);
        x.lay(1, 1, 1);
    }

    /** A byte that two overlays want to be different is changed in each round, though each round ends with the same. */
    private static void overlaysThatDisagree() {
        Refusal.refused("refresh", CheckBoundsTest::disagreeing, x -> x.refresh(), UNSTABLE);
        Refusal.Run following = x -> {
            disagreeing(x);
            x.follow(true);
        };
        Refusal.refused("overwrite(2,1)", following, x -> x.overwrite(2, 1), UNSTABLE);
        StructureEditor x = new StructureEditor();
        following.on(x);
        Due.due("overwrite(0,0): they agree", x.overwrite(0, 0), 5);
        Due.buffer("after it", x, 0, 0, 0);
        Due.due("refresh", x.refresh(), 0);
    }

    /** The checks that a broken layout has got are updated, those behind the break are not. */
    private static void brokenLayoutsAreUpdated() {
        StructureEditor x = new StructureEditor();
        Due.bytes(x, 5, 0, 0, 0);
        Due.define(x, 0, "a:u1;k:x(a,a);b:u1;l:s(a,k);", 4);
        x.lay(0, 0, 0);
        Due.due("broken", x.overlay(0, 3), 1);
        Due.due("refresh", x.refresh(), 1);
        Due.buffer("after refresh", x, 5, 5, 0, 0);
        x.insert(4, 0, 1);
        Due.due("refresh of a byte more", x.refresh(), 1);
        Due.buffer("after refresh", x, 5, 5, 0, 0, 10);
    }

    /** "the present overlays are gone through": checks of one that is removed or replaced are not updated. */
    private static void onlyPresentOverlaysAreUpdated() {
        StructureEditor x = new StructureEditor();
        Due.bytes(x, 5, 5, 5, 5);
        Due.define(x, 0, "a:u1;k:x(a,a);", 2);
        Due.define(x, 1, "a:u1;", 1);
        x.follow(true);
        x.lay(0, 0, 0);
        x.lay(1, 1, 0);
        Due.due("remove(0)", x.remove(0), 0);
        Due.due("overwrite(0,9)", x.overwrite(0, 9), 5);
        Due.buffer("after it", x, 9, 5, 5, 5);
        Due.due("lay(2,0,1)", x.lay(2, 0, 1), 2);
        Due.due("lay(2,1,1)", x.lay(2, 1, 1), 1);
        Due.due("overwrite(1,8)", x.overwrite(1, 8), 5);
        Due.buffer("after it", x, 9, 8, 5, 5);
        Due.due("refresh", x.refresh(), 0);
        Due.due("count(1)", x.count(1), 0);
    }

    /** All checks of a list of 60 are updated, the last one, too. */
    private static void sixtyChecks() {
        StructureEditor x = new StructureEditor();
        x.insert(0, 1, 64);
        x.insert(64, 7, 1);
        Due.define(x, 0, "s:{e:{};k:x(e,e);}*61;", 3);
        Due.due("lay", x.lay(3, 0, 2), 60);
        Due.due("60 wrong checks", x.overlay(3, 5), 60);
        Due.due("refresh", x.refresh(), 1);
        Due.due("no wrong check", x.count(1), 0);
        Due.due("before the first", x.byteAt(1), 1);
        Due.due("the first", x.byteAt(2), 0);
        Due.due("the last", x.byteAt(61), 0);
        Due.due("behind the last", x.byteAt(62), 1);
    }

    /** repair(): "BAD if there is no such field". */
    private static void repairOfNone() {
        for (int overlay : new int[] {-1, 1, 2, 4, MIN, MAX}) {
            Refusal.refused("repair(" + overlay + ",0)", Refusal::rich, x -> x.repair(overlay, 0), BAD);
        }
        for (int i : new int[] {-1, 3, 60, MIN, MAX}) {
            Refusal.refused("repair(0," + i + ")", Refusal::rich, x -> x.repair(0, i), BAD);
        }
        Refusal.refused("repair(3,2)", Refusal::rich, x -> x.repair(3, 2), BAD);
    }

    /** repair(): "STATE if it is not a wrong check field": an integer, or a right one. */
    private static void repairOfNoWrongCheck() {
        Refusal.refused("repair(0,0)", Refusal::rich, x -> x.repair(0, 0), STATE);
        Refusal.refused("repair(0,1)", Refusal::rich, x -> x.repair(0, 1), STATE);
        Refusal.refused("repair(0,2)", Refusal::rich, x -> x.repair(0, 2), STATE);
        Refusal.refused("repair(3,0)", Refusal::rich, x -> x.repair(3, 0), STATE);
        StructureEditor x = checked();
        Due.due("a right x over nothing", x.repair(0, 0), STATE);
        Due.due("a right s over nothing", x.repair(0, 1), STATE);
        Due.due("a wrong c over nothing", x.repair(0, 2), NONE);
        x.setField(0, 2, 65535);
        Due.due("a right c over nothing", x.repair(0, 2), STATE);
        StructureEditor y = rich();
        Due.due("a wrong s without a way", y.repair(3, 1), NONE);
        y.setField(3, 1, 20);
        Due.due("a wrong s with a way: 6 more at 5", y.repair(3, 1), 256 * 5 + 13);
        Due.due("repair is no change", y.count(2), 9);
        Due.due("it is still wrong", y.overlay(3, 5), 1);
        Due.due("the byte is still the same", y.byteAt(5), 7);
    }

    /** A sum over a range of zeros and a last byte of 200, which the check says to be 100: only that byte can be less. */
    private static StructureEditor lastIsTooGreat(int offset, int length) {
        StructureEditor x = new StructureEditor();
        x.insert(0, 0, offset + 1);
        for (int i = 1; i < length; i++) {
            x.insert(0, 0, 1);
        }
        x.insert(offset + length, 0, 2);
        x.overwrite(offset + length - 1, 200);
        Due.define(x, 0, "a:{." + length + ";};k:s(a,a);", 3);
        Due.due("lay", x.lay(0, 0, offset), 1);
        Due.due("setField", x.setField(0, 0, 100), 1);
        return x;
    }

    /** "Finds a byte among the first 16 bytes of the range". */
    private static void repairWithinSixteen() {
        for (int offset : new int[] {0, 3, 60}) {
            for (int length = 1; length <= 16; length++) {
                int want = 256 * (offset + length - 1) + 100;
                Due.due("the last of " + length, lastIsTooGreat(offset, length).repair(0, 0), want);
            }
            for (int length = 17; length <= 19; length++) {
                Due.due("the last of " + length, lastIsTooGreat(offset, length).repair(0, 0), NONE);
            }
        }
    }

    /** A range of fewer than 16 bytes: neither the check itself nor what lies behind it is looked at. */
    private static void repairOfShortRanges() {
        StructureEditor x = new StructureEditor();
        Due.bytes(x, 0, 0, 1, 200, 200);
        Due.define(x, 0, "a:u1;k:s(a,a);", 2);
        x.lay(0, 0, 0);
        Due.due("the only byte", x.repair(0, 1), 1);
        x.setField(0, 1, 255);
        Due.due("the only byte at its most", x.repair(0, 1), 255);
        x.setField(0, 1, 256);
        Due.due("beyond the most of a byte", x.repair(0, 1), NONE);
        x.setField(0, 1, 65535);
        Due.due("far beyond it", x.repair(0, 1), NONE);
        x.overwrite(0, 9);
        x.setField(0, 1, 0);
        Due.due("the only byte at its least", x.repair(0, 1), 0);
        StructureEditor y = checked();
        y.setField(0, 0, 7);
        y.setField(0, 1, 7);
        for (int i = 0; i < 3; i++) {
            Due.due("an empty range of field " + i, y.repair(0, i), NONE);
        }
    }

    /** s: the byte may become 0 and 255, and no more. */
    private static void repairOfSums() {
        StructureEditor x = checked(10, 250, 20);
        int[][] cases = {{281, 11}, {525, 255}, {526, NONE}, {270, 0}, {269, 256 + 239}, {30, 256}, {29, NONE},
            {285, 15}, {0, NONE}, {65535, NONE}};
        for (int[] c : cases) {
            x.setField(0, 1, c[0]);
            Due.due("s of " + c[0], x.repair(0, 1), c[1]);
        }
        x = checked(250, 10, 20);
        int[][] more = {{285, 255}, {286, 256 + 16}, {525, 256 + 255}, {526, NONE}, {30, 0}, {29, NONE}};
        for (int[] c : more) {
            x.setField(0, 1, c[0]);
            Due.due("s of " + c[0], x.repair(0, 1), c[1]);
        }
        x = checked(255, 255, 254);
        x.setField(0, 1, 765);
        Due.due("only the third can be more", x.repair(0, 1), 2 * 256 + 255);
        x = checked(0, 0, 1);
        x.setField(0, 1, 0);
        Due.due("only the third can be less", x.repair(0, 1), 2 * 256);
    }

    /** x: the first byte can always be replaced. */
    private static void repairOfXors() {
        StructureEditor x = checked(0, 255, 170);
        for (int value : new int[] {0, 1, 127, 128, 254, 255}) {
            x.setField(0, 0, value);
            int expected = 255 ^ 170;
            Due.due("x of " + value, x.repair(0, 0), expected ^ value);
        }
        StructureEditor y = new StructureEditor();
        for (int n = 0; n < 4; n++) {
            y.insert(0, 255, 50);
        }
        Due.define(y, 0, "a:u1;k:x(a,a);", 2);
        y.lay(0, 0, 198);
        y.overwrite(199, 0);
        Due.due("the last position that can be", y.repair(0, 1), 198 * 256);
        y.overwrite(198, 0);
        y.overwrite(199, 255);
        Due.due("with the greatest byte", y.repair(0, 1), 198 * 256 + 255);
    }

    /** c: each byte that was changed is found again, at its own place or before it. */
    private static void repairOfC() {
        for (int at = 0; at < 20; at++) {
            StructureEditor x = new StructureEditor();
            for (int i = 0; i < 24; i++) {
                x.insert(i, i * 37 % 256, 1);
            }
            Due.define(x, 0, "a:{.20;};k:c(a,a);", 3);
            x.lay(0, 0, 2);
            x.refresh();
            int right = x.byteAt(2 + at);
            x.overwrite(2 + at, 255 - right);
            Due.due("the byte " + at, x.repair(0, 0), at < 16 ? 256 * (2 + at) + right : NONE);
        }
        repairOfCAmongZeros();
        StructureEditor x = checked(0);
        x.setField(0, 2, 0xff00);
        Due.due("c of the byte 255", x.repair(0, 2), 255);
        x.setField(0, 2, 0xff01);
        Due.due("c of no byte", x.repair(0, 2), NONE);
        x.overwrite(0, 255);
        x.setField(0, 2, 0xe1f0);
        Due.due("c of the byte 0", x.repair(0, 2), 0);
    }

    /** Bytes of 0 count, too; and a check that no byte can make right has no repair. */
    private static void repairOfCAmongZeros() {
        for (int at = 0; at < 18; at++) {
            StructureEditor x = checked(new int[18]);
            x.refresh();
            x.overwrite(at, 255);
            Due.due("the byte " + at + " among zeros", x.repair(0, 2), at < 16 ? 256 * at : NONE);
            x.undo();
            x.overwrite(at, 1);
            x.setField(0, 2, x.expected(0, 2));
            x.overwrite(at, 0);
            Due.due("the byte " + at + " is to be 1", x.repair(0, 2), at < 16 ? 256 * at + 1 : NONE);
        }
    }

    /** "of several the one with the least position". */
    private static void repairOfSeveral() {
        StructureEditor x = checked(7, 7, 7);
        x.setField(0, 0, 0);
        x.setField(0, 1, 20);
        Due.due("x: the first of three", x.repair(0, 0), 0);
        Due.due("s: the first of three", x.repair(0, 1), 6);
        // with its present range: the byte that is the count of the range is replaced all the same
        StructureEditor y = new StructureEditor();
        Due.bytes(y, 1, 9, 10, 3, 4, 5);
        Due.define(y, 0, "n:u1;d:u1*n;k:s(n,d);", 3);
        y.lay(0, 0, 0);
        Due.due("wrong", y.overlay(0, 5), 1);
        y.setField(0, 2, 12);
        Due.due("the count becomes 3", y.repair(0, 2), 3);
    }
}
