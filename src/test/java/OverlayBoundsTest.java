/** The boundary cases of overlays and fields: promises 18 to 26. */
public final class OverlayBoundsTest {
    private static final int BAD = -1001, RANGE = -1004, NONE = -1009;
    private static final int MIN = Integer.MIN_VALUE, MAX = Integer.MAX_VALUE;
    private static final int[] NO_OVERLAY = {-1, 4, 5, MIN, MAX};
    private static final int[] ABSENT_OR_NONE = {-1, 1, 2, 4, 5, MIN, MAX};

    private OverlayBoundsTest() {
    }

    public static void main(String[] args) {
        layOverlays();
        layTemplates();
        layOffsets();
        layInPlace();
        removeOfNone();
        removeAndAgain();
        overlayOfNone();
        overlayProperties();
        fieldOfNone();
        fieldProperties();
        rangesOfIntegers();
        valueOfNone();
        pathOfNone();
        pathLevels();
        pathIndexes();
        fieldAtOfNone();
        fieldAtTheEdges();
        counterpartOfNone();
        counterpartPaths();
        setFieldOfNone();
        setFieldRanges();
        setFieldWrapsNot();
        setFieldOfChecks();
        setFieldCounts();
        layAnswersBehindTheUpdate();
        setFieldAnswersBehindTheUpdate();
        brokenOverlays();
        Due.finish();
    }

    /**
     * The rich object has 12 bytes; overlay 0 has 3 fields, overlay 3 has 2, the last one a wrong check;
     * overlays 1 and 2 are not present.
     */
    private static void refused(String name, Refusal.Call call, long want) {
        Refusal.refused(name, Refusal::rich, call, want);
        Refusal.refused(name + ", following", Refusal::richAndFollowing, call, want);
    }

    private static StructureEditor rich() {
        StructureEditor x = new StructureEditor();
        Refusal.rich(x);
        return x;
    }

    /** lay(): "overlay: the overlay, 0 to 3". */
    private static void layOverlays() {
        for (int overlay = 0; overlay < 4; overlay++) {
            StructureEditor x = rich();
            Due.due("lay(" + overlay + ",2,0)", x.lay(overlay, 2, 0), 2);
            Due.due("overlay(" + overlay + ",0)", x.overlay(overlay, 0), 2);
            Due.due("present", x.count(0), overlay == 0 || overlay == 3 ? 2 : 3);
        }
        for (int overlay : NO_OVERLAY) {
            refused("lay(" + overlay + ",2,0)", x -> x.lay(overlay, 2, 0), BAD);
        }
    }

    /** lay(): "template: the template, 0 to 3". */
    private static void layTemplates() {
        int[] fields = {3, 2, 2, 0};
        for (int template = 0; template < 4; template++) {
            StructureEditor x = rich();
            Due.due("lay(1," + template + ",0)", x.lay(1, template, 0), fields[template]);
            Due.due("overlay(1,0)", x.overlay(1, 0), template);
        }
        for (int template : NO_OVERLAY) {
            refused("lay(1," + template + ",0)", x -> x.lay(1, template, 0), BAD);
        }
    }

    /** lay(): "offset: the offset, 0 to the length of the buffer". */
    private static void layOffsets() {
        StructureEditor x = rich();
        Due.due("lay(1,2,0)", x.lay(1, 2, 0), 2);
        Due.due("overlay(1,1)", x.overlay(1, 1), 0);
        Due.due("lay(1,2,10)", x.lay(1, 2, 10), 2);
        Due.due("lay(1,2,11)", x.lay(1, 2, 11), 1);
        Due.due("lay(1,2,12)", x.lay(1, 2, 12), 0);
        Due.due("overlay(1,1)", x.overlay(1, 1), 12);
        Due.due("overlay(1,3)", x.overlay(1, 3), 1);
        for (int offset : new int[] {-1, 13, 14, 200, 201, MIN, MAX}) {
            refused("lay(1,2," + offset + ")", y -> y.lay(1, 2, offset), BAD);
            refused("lay(0,2," + offset + ") in place", y -> y.lay(0, 2, offset), BAD);
        }
        StructureEditor y = new StructureEditor();
        Due.due("lay(0,0,0) over an empty buffer", y.lay(0, 0, 0), 0);
        Due.due("lay(0,0,1) over an empty buffer", y.lay(0, 0, 1), BAD);
        for (int n = 0; n < 4; n++) {
            y.insert(0, 0, 50);
        }
        Due.due("lay(3,0,200) over a full buffer", y.lay(3, 0, 200), 0);
        Due.due("lay(3,0,201) over a full buffer", y.lay(3, 0, 201), BAD);
        Due.due("overlay(3,1)", y.overlay(3, 1), 200);
    }

    /** "Lays a template over the buffer, in place of what the overlay was. This is a change." */
    private static void layInPlace() {
        StructureEditor x = rich();
        Due.due("lay(0,1,12)", x.lay(0, 1, 12), 0);
        Due.due("present", x.count(0), 2);
        Due.due("overlay(0,0)", x.overlay(0, 0), 1);
        Due.due("overlay(0,1)", x.overlay(0, 1), 12);
        Due.due("a change more", x.count(2), 9);
        Due.due("nothing to redo", x.count(3), 0);
        Due.due("lay(0,1,12) again", x.lay(0, 1, 12), 0);
        Due.due("the same again is a change, too", x.count(2), 10);
    }

    /** remove(): "BAD if it is not present". */
    private static void removeOfNone() {
        for (int overlay : ABSENT_OR_NONE) {
            refused("remove(" + overlay + ")", x -> x.remove(overlay), BAD);
        }
        for (int overlay = 0; overlay < 4; overlay++) {
            Due.due("remove of a new object", new StructureEditor().remove(overlay), BAD);
        }
    }

    /** "Removes an overlay. The bytes stay. This is a change. Returns its offset". */
    private static void removeAndAgain() {
        StructureEditor x = rich();
        long first = x.byteAt(0);
        Due.due("remove(0)", x.remove(0), 0);
        Due.due("remove(0) again", x.remove(0), BAD);
        Due.due("remove(3)", x.remove(3), 5);
        Due.due("remove(3) again", x.remove(3), BAD);
        Due.due("present", x.count(0), 0);
        Due.due("length()", x.length(), 12);
        Due.due("byteAt(0)", x.byteAt(0), first);
        Due.due("two changes more", x.count(2), 10);
        Due.due("lay(0,0,12)", x.lay(0, 0, 12), 0);
        Due.due("remove(0) at the length", x.remove(0), 12);
    }

    /** overlay(): "BAD if it is not present or what is out of range". */
    private static void overlayOfNone() {
        for (int overlay : ABSENT_OR_NONE) {
            for (int what = 0; what <= 5; what++) {
                int property = what;
                refused("overlay(" + overlay + "," + what + ")", x -> x.overlay(overlay, property), BAD);
            }
        }
        for (int what : new int[] {-1, 6, 7, MIN, MAX}) {
            refused("overlay(0," + what + ")", x -> x.overlay(0, what), BAD);
            refused("overlay(1," + what + ")", x -> x.overlay(1, what), BAD);
        }
    }

    /** overlay(): "what: 0 for its template" to "5 for the number of wrong check fields". */
    private static void overlayProperties() {
        StructureEditor x = rich();
        int[][] want = {{0, 0, 3, 0, 3, 0}, {1, 5, 2, 0, 9, 1}};
        for (int what = 0; what <= 5; what++) {
            Due.due("overlay(0," + what + ")", x.overlay(0, what), want[0][what]);
            Due.due("overlay(3," + what + ")", x.overlay(3, what), want[1][what]);
        }
        // the second one of two wrong checks, and none behind a break
        StructureEditor y = new StructureEditor();
        y.insert(0, 1, 5);
        Due.define(y, 0, "e:{};a:x(e,e);b:s(e,e);c:u1;d:c(e,e);", 5);
        y.lay(0, 0, 0);
        Due.due("two wrong checks, the third is not laid", y.overlay(0, 5), 2);
        Due.due("broken", y.overlay(0, 3), 1);
        Due.due("the end is where it broke", y.overlay(0, 4), 4);
        y.insert(5, 255, 1);
        Due.due("three wrong checks", y.overlay(0, 5), 3);
        y.overwrite(4, 255);
        Due.due("the third is right", y.overlay(0, 5), 2);
    }

    /** field(): "BAD if there is no such field or what is out of range". */
    private static void fieldOfNone() {
        for (int overlay : ABSENT_OR_NONE) {
            refused("field(" + overlay + ",0,0)", x -> x.field(overlay, 0, 0), BAD);
        }
        for (int i : new int[] {-1, 3, 4, 60, MIN, MAX}) {
            refused("field(0," + i + ",0)", x -> x.field(0, i, 0), BAD);
        }
        refused("field(3,2,0)", x -> x.field(3, 2, 0), BAD);
        refused("field(3,-1,6)", x -> x.field(3, -1, 6), BAD);
        for (int what : new int[] {-1, 7, 8, MIN, MAX}) {
            refused("field(0,0," + what + ")", x -> x.field(0, 0, what), BAD);
            refused("field(0,2," + what + ")", x -> x.field(0, 2, what), BAD);
        }
        // a field that a layout had before is none
        StructureEditor x = rich();
        Due.due("field(0,2,0)", x.field(0, 2, 0), 2);
        Due.due("field(3,1,0)", x.field(3, 1, 0), 7);
        Due.due("field(3,2,0) after field(0,2,0)", x.field(3, 2, 0), BAD);
        x.lay(0, 3, 0);
        Due.due("field(0,0,0) of an empty template", x.field(0, 0, 0), BAD);
    }

    /** field(): "what: 0 for its start" to "6 for the number of names in its path". */
    private static void fieldProperties() {
        StructureEditor x = rich();
        int[][] want = {{0, 1, 0, 0, NONE, NONE, 1}, {2, 1, 2, 0, 0, 2, 1}, {5, 2, 1, 1, NONE, NONE, 1},
            {7, 2, 3, 0, 5, 7, 1}};
        int[][] of = {{0, 0}, {0, 2}, {3, 0}, {3, 1}};
        for (int n = 0; n < of.length; n++) {
            for (int what = 0; what <= 6; what++) {
                String name = "field(" + of[n][0] + "," + of[n][1] + "," + what + ")";
                Due.due(name, x.field(of[n][0], of[n][1], what), want[n][what]);
            }
        }
        // the 60th field, at the end of a full buffer
        StructureEditor y = new StructureEditor();
        for (int n = 0; n < 4; n++) {
            y.insert(0, 0, 50);
        }
        Due.define(y, 0, ".140;a:{b:{c:{d:u1*59;e:c(d,d);};};};", 6);
        Due.due("lay", y.lay(0, 0, 0), 59);
        Due.define(y, 1, ".139;a:{b:{c:{d:u1*59;e:c(d,d);};};};", 6);
        Due.due("lay", y.lay(0, 1, 0), 60);
        int[] last = {198, 2, 4, 0, 139, 198, 4};
        for (int what = 0; what <= 6; what++) {
            Due.due("field(0,59," + what + ")", y.field(0, 59, what), last[what]);
            Due.due("field(0,60," + what + ")", y.field(0, 60, what), BAD);
        }
    }

    /** "4 and 5 are NONE unless it is a check field": NONE is no error, and no position either. */
    private static void rangesOfIntegers() {
        StructureEditor x = new StructureEditor();
        x.insert(0, 0, 20);
        Due.define(x, 0, "a:u1;b:i1;c:u2<;d:i4<;e:x(a,a);f:s(a,a);g:c(a,a);", 7);
        Due.due("lay", x.lay(0, 0, 0), 7);
        for (int i = 0; i < 7; i++) {
            Due.due("field(0," + i + ",4)", x.field(0, i, 4), i < 4 ? NONE : 0);
            Due.due("field(0," + i + ",5)", x.field(0, i, 5), i < 4 ? NONE : 1);
        }
    }

    /** value(): "Long.MIN_VALUE if there is no such field". */
    private static void valueOfNone() {
        long none = Long.MIN_VALUE;
        for (int overlay : ABSENT_OR_NONE) {
            refused("value(" + overlay + ",0)", x -> x.value(overlay, 0), none);
        }
        for (int i : new int[] {-1, 3, 60, MIN, MAX}) {
            refused("value(0," + i + ")", x -> x.value(0, i), none);
        }
        refused("value(3,2)", x -> x.value(3, 2), none);
        StructureEditor x = rich();
        Due.due("value(0,0)", x.value(0, 0), 1);
        Due.due("value(0,2)", x.value(0, 2), 3);
        Due.due("value(3,0)", x.value(3, 0), 0x0707);
        Due.due("value(3,1)", x.value(3, 1), 0x0209);
    }

    /** path(): "BAD if there is no such field", whatever the level is. */
    private static void pathOfNone() {
        for (int overlay : ABSENT_OR_NONE) {
            refused("path(" + overlay + ",0,0)", x -> x.path(overlay, 0, 0), BAD);
            refused("path(" + overlay + ",0,9)", x -> x.path(overlay, 0, 9), BAD);
        }
        for (int i : new int[] {-1, 3, 60, MIN, MAX}) {
            refused("path(0," + i + ",0)", x -> x.path(0, i, 0), BAD);
            refused("path(0," + i + ",1)", x -> x.path(0, i, 1), BAD);
            refused("path(0," + i + ",-1)", x -> x.path(0, i, -1), BAD);
        }
    }

    /** path(): "level: the index in the path, from 0"; "NONE if there is no such level". */
    private static void pathLevels() {
        StructureEditor x = new StructureEditor();
        x.insert(0, 0, 9);
        Due.define(x, 0, "a:u1;b:{c:u1;d:{e:u1;f:{g:u1;};};};", 7);
        Due.due("lay", x.lay(0, 0, 0), 4);
        String[] paths = {"a", "bc", "bde", "bdfg"};
        for (int i = 0; i < paths.length; i++) {
            int names = paths[i].length();
            Due.due("names", x.field(0, i, 6), names);
            for (int level = 0; level < names; level++) {
                Due.due("path(0," + i + "," + level + ")", x.path(0, i, level), paths[i].charAt(level));
            }
            for (int level : new int[] {-1, names, names + 1, 4, MIN, MAX}) {
                Due.due("path(0," + i + "," + level + ")", x.path(0, i, level), NONE);
            }
        }
    }

    /** "Each of them has an index: which repetition it is, from 0; it is 0 without a count." */
    private static void pathIndexes() {
        StructureEditor x = new StructureEditor();
        x.insert(0, 1, 64);
        Due.define(x, 0, "a:u1*60;", 1);
        Due.define(x, 1, "z:{y:{a:u1;};}*60;", 3);
        Due.define(x, 2, "a:u1*1;b:{c:u1;}*1;d:u1;e:{f:u1;};g:u1*d;", 7);
        Due.due("lay", x.lay(0, 0, 0), 60);
        Due.due("lay", x.lay(1, 1, 0), 60);
        Due.due("lay", x.lay(2, 2, 0), 5);
        for (int i : new int[] {0, 1, 58, 59}) {
            Due.due("path(0," + i + ",0)", x.path(0, i, 0), 1000 * i + 'a');
            Due.due("path(1," + i + ",0)", x.path(1, i, 0), 1000 * i + 'z');
            Due.due("path(1," + i + ",1)", x.path(1, i, 1), 'y');
            Due.due("path(1," + i + ",2)", x.path(1, i, 2), 'a');
        }
        String own = "acdfg";
        for (int i = 0; i < 5; i++) {
            Due.due("own name of field " + i, x.path(2, i, x.field(2, i, 6) - 1), own.charAt(i));
        }
    }

    /** fieldAt(): "BAD if the overlay is not present or there is no such byte". */
    private static void fieldAtOfNone() {
        for (int overlay : ABSENT_OR_NONE) {
            refused("fieldAt(" + overlay + ",0)", x -> x.fieldAt(overlay, 0), BAD);
        }
        for (int at : new int[] {-1, 12, 13, MIN, MAX}) {
            refused("fieldAt(0," + at + ")", x -> x.fieldAt(0, at), BAD);
        }
        refused("fieldAt(1,12)", x -> x.fieldAt(1, 12), BAD);
        StructureEditor x = new StructureEditor();
        x.lay(0, 0, 0);
        Due.due("fieldAt(0,0) of an empty buffer", x.fieldAt(0, 0), BAD);
    }

    /** fieldAt(): "NONE if it lies in no field": before, between and behind the fields. */
    private static void fieldAtTheEdges() {
        StructureEditor x = new StructureEditor();
        x.insert(0, 0, 14);
        Due.define(x, 0, "a:u4;.1;b:u1;k:c(a,b);@3;l:x(a,a);m:u4;", 7);
        Due.due("lay", x.lay(0, 0, 2), 4);
        int[] want = {NONE, NONE, 0, 0, 0, 0, NONE, 1, 2, 2, NONE, 3, NONE, NONE};
        for (int at = 0; at < want.length; at++) {
            Due.due("fieldAt(0," + at + ")", x.fieldAt(0, at), want[at]);
        }
        Due.due("fieldAt(0,14)", x.fieldAt(0, 14), BAD);
        StructureEditor y = rich();
        Due.due("fieldAt(0,11)", y.fieldAt(0, 11), NONE);
        Due.due("fieldAt(3,0)", y.fieldAt(3, 0), NONE);
        Due.due("fieldAt(3,5)", y.fieldAt(3, 5), 0);
        Due.due("fieldAt(3,8)", y.fieldAt(3, 8), 1);
        Due.due("fieldAt(3,9)", y.fieldAt(3, 9), NONE);
        // a field that another overlay has is none of this one
        Due.due("fieldAt(0,2)", y.fieldAt(0, 2), 2);
        Due.due("fieldAt(3,2)", y.fieldAt(3, 2), NONE);
        StructureEditor z = new StructureEditor();
        z.insert(0, 0, 64);
        Due.define(z, 0, "a:u1*61;", 1);
        Due.due("lay", z.lay(0, 0, 2), 60);
        Due.due("the first of 60 fields", z.fieldAt(0, 2), 0);
        Due.due("the last of 60 fields", z.fieldAt(0, 61), 59);
        Due.due("before 60 fields", z.fieldAt(0, 1), NONE);
        Due.due("behind 60 fields", z.fieldAt(0, 62), NONE);
    }

    /** counterpart(): "BAD if there is no such field, or the other overlay is not present". */
    private static void counterpartOfNone() {
        for (int overlay : ABSENT_OR_NONE) {
            refused("counterpart(" + overlay + ",0,0)", x -> x.counterpart(overlay, 0, 0), BAD);
            refused("counterpart(0,0," + overlay + ")", x -> x.counterpart(0, 0, overlay), BAD);
            refused("counterpart(0,3," + overlay + ")", x -> x.counterpart(0, 3, overlay), BAD);
        }
        for (int i : new int[] {-1, 3, 60, MIN, MAX}) {
            refused("counterpart(0," + i + ",0)", x -> x.counterpart(0, i, 0), BAD);
            refused("counterpart(0," + i + ",3)", x -> x.counterpart(0, i, 3), BAD);
        }
        refused("counterpart(3,2,0)", x -> x.counterpart(3, 2, 0), BAD);
        StructureEditor x = rich();
        Due.due("counterpart(0,2,3)", x.counterpart(0, 2, 3), 1);
        Due.due("counterpart(0,0,3)", x.counterpart(0, 0, 3), NONE);
        Due.due("counterpart(0,2,0)", x.counterpart(0, 2, 0), 2);
    }

    /** counterpart(): "NONE if there is no field with this path": names and indexes, all of them and no more. */
    private static void counterpartPaths() {
        StructureEditor x = new StructureEditor();
        x.insert(0, 0, 30);
        Due.define(x, 0, "s:{b:u1;}*2;t:u1;b:u1*2;", 4);
        Due.define(x, 1, "t:{b:u1;};s:u1;b:u1;", 4);
        Due.define(x, 2, "b:i4<*3;s:{b:u1*2;};", 3);
        Due.due("lay(0)", x.lay(0, 0, 0), 5);
        Due.due("lay(1)", x.lay(1, 1, 0), 3);
        Due.due("lay(2)", x.lay(2, 2, 9), 5);
        counterparts(x, 0, 1, NONE, NONE, NONE, 2, NONE);
        counterparts(x, 1, 0, NONE, NONE, 3);
        counterparts(x, 0, 2, 3, NONE, NONE, 0, 1);
        counterparts(x, 2, 0, 3, 4, NONE, 0, NONE);
        counterparts(x, 1, 2, NONE, NONE, 0);
        counterparts(x, 2, 2, 0, 1, 2, 3, 4);
        x.lay(3, 3, 0);
        counterparts(x, 0, 3, NONE, NONE, NONE, NONE, NONE);
        longestPaths();
        sixtyCounterparts();
    }

    /** Paths of four names, which differ in one of them or in one index. */
    private static void longestPaths() {
        StructureEditor x = new StructureEditor();
        x.insert(0, 0, 40);
        Due.define(x, 0, "a:{b:{c:{d:u1;e:u1;};};};", 5);
        Due.define(x, 1, "a:{b:{c:{e:u1;f:u1;d:u1*2;};g:{d:u1;};};};", 8);
        Due.define(x, 2, "a:{b:{c:{d:u1;}*2;}*2;}*2;", 4);
        Due.due("lay(0)", x.lay(0, 0, 0), 2);
        Due.due("lay(1)", x.lay(1, 1, 0), 5);
        Due.due("lay(2)", x.lay(2, 2, 0), 8);
        counterparts(x, 0, 1, 2, 0);
        counterparts(x, 1, 0, 1, NONE, 0, NONE, NONE);
        counterparts(x, 0, 2, 0, NONE);
        counterparts(x, 2, 0, 0, NONE, NONE, NONE, NONE, NONE, NONE, NONE);
        counterparts(x, 2, 2, 0, 1, 2, 3, 4, 5, 6, 7);
    }

    private static void sixtyCounterparts() {
        StructureEditor x = new StructureEditor();
        x.insert(0, 0, 64);
        Due.define(x, 0, "a:u1*60;", 1);
        Due.define(x, 1, "b:u1;a:u1*60;", 2);
        Due.due("lay(0)", x.lay(0, 0, 0), 60);
        Due.due("lay(1)", x.lay(1, 1, 0), 60);
        Due.due("the first of 60", x.counterpart(0, 0, 1), 1);
        Due.due("the last of 60", x.counterpart(0, 58, 1), 59);
        Due.due("none of 60", x.counterpart(0, 59, 1), NONE);
        Due.due("none of 60", x.counterpart(1, 0, 0), NONE);
        Due.due("the last of 60", x.counterpart(1, 59, 0), 58);
    }

    private static void counterparts(StructureEditor x, int overlay, int other, int... want) {
        for (int i = 0; i < want.length; i++) {
            Due.due("counterpart(" + overlay + "," + i + "," + other + ")", x.counterpart(overlay, i, other), want[i]);
        }
        Due.due("counterpart behind the last", x.counterpart(overlay, want.length, other), BAD);
    }

    /** setField(): BAD if there is no such overlay or field, whether the value would fit or not. */
    private static void setFieldOfNone() {
        for (int overlay : ABSENT_OR_NONE) {
            refused("setField(" + overlay + ",0,0)", x -> x.setField(overlay, 0, 0), BAD);
            refused("setField(" + overlay + ",0,MAX)", x -> x.setField(overlay, 0, Long.MAX_VALUE), BAD);
        }
        for (int i : new int[] {-1, 3, 60, MIN, MAX}) {
            refused("setField(0," + i + ",0)", x -> x.setField(0, i, 0), BAD);
            refused("setField(0," + i + ",-1)", x -> x.setField(0, i, -1), BAD);
            refused("setField(0," + i + ",65536)", x -> x.setField(0, i, 65536), BAD);
        }
        refused("setField(3,2,0)", x -> x.setField(3, 2, 0), BAD);
    }

    private static final String KINDS = "a:u1;b:u2;c:u4;d:i1;e:i2;f:i4;g:u2<;h:u4<;i:i2<;j:i4<;k:u1<;l:i1<;";
    private static final int[] SIZES = {1, 2, 4, 1, 2, 4, 2, 4, 2, 4, 1, 1};
    private static final String SIGNED = "...iii..ii.i";

    private static void kinds(StructureEditor x) {
        x.insert(0, 0x55, 40);
        Due.define(x, 0, KINDS, 12);
        Due.due("lay", x.lay(0, 0, 3), 12);
        x.overwrite(0, 1);
        x.undo();
    }

    /** setField(): "RANGE if the value does not fit". */
    private static void setFieldRanges() {
        StructureEditor x = new StructureEditor();
        kinds(x);
        for (int i = 0; i < 12; i++) {
            int field = i;
            boolean isSigned = SIGNED.charAt(i) == 'i';
            long span = 1L << (8 * SIZES[i]);
            long least = isSigned ? -(span / 2) : 0;
            long most = least + span - 1;
            for (long value : new long[] {least, least + 1, most - 1, most}) {
                Due.due("setField(0," + i + "," + value + ")", x.setField(0, i, value), 12);
                Due.due("value(0," + i + ")", x.value(0, i), value);
            }
            for (long value : new long[] {least - 1, most + 1, Long.MIN_VALUE, Long.MAX_VALUE}) {
                Refusal.refused("setField(0," + i + "," + value + ")", OverlayBoundsTest::kinds,
                        y -> y.setField(0, field, value), RANGE);
            }
        }
        neighbours();
    }

    /** The bytes beside a field stay. */
    private static void neighbours() {
        StructureEditor x = new StructureEditor();
        kinds(x);
        int start = x.field(0, 9, 0);
        Due.due("setField", x.setField(0, 9, -2), 12);
        Due.due("before", x.byteAt(start - 1), 0x55);
        Due.due("the least byte first", x.byteAt(start), 254);
        Due.due("the last", x.byteAt(start + 3), 255);
        Due.due("behind", x.byteAt(start + 4), 0x55);
        Due.due("setField", x.setField(0, 5, Integer.MIN_VALUE), 12);
        Due.due("the first", x.byteAt(x.field(0, 5, 0)), 128);
        Due.due("the last", x.byteAt(x.field(0, 5, 0) + 3), 0);
    }

    /** A long whose lower bits alone would fit does not fit. */
    private static void setFieldWrapsNot() {
        long[] values = {1L << 32, (1L << 32) + 1, -(1L << 32), (1L << 40) + 7, (1L << 63) + 1, 0xffffffff00000000L};
        for (int i = 0; i < 12; i++) {
            int field = i;
            for (long value : values) {
                Refusal.refused("setField(0," + i + "," + value + ")", OverlayBoundsTest::kinds,
                        y -> y.setField(0, field, value), RANGE);
            }
        }
    }

    private static void checks(StructureEditor x) {
        x.insert(0, 3, 9);
        Due.define(x, 1, "a:u1;b:x(a,a);c:s(a,a);d:c(a,a);", 4);
        Due.due("lay", x.lay(2, 1, 0), 4);
    }

    /** "Check fields can be set, too.": they are unsigned, of 1 or 2 bytes, big-endian. */
    private static void setFieldOfChecks() {
        StructureEditor x = new StructureEditor();
        checks(x);
        int[] most = {0, 255, 65535, 65535};
        for (int i = 1; i < 4; i++) {
            int field = i;
            Due.due("setField(2," + i + ",0)", x.setField(2, i, 0), 4);
            Due.due("value(2," + i + ")", x.value(2, i), 0);
            Due.due("setField(2," + i + ",most)", x.setField(2, i, most[i]), 4);
            Due.due("value(2," + i + ")", x.value(2, i), most[i]);
            for (long value : new long[] {-1, most[i] + 1L, Long.MIN_VALUE, Long.MAX_VALUE}) {
                Refusal.refused("setField(2," + i + "," + value + ")", OverlayBoundsTest::checks,
                        y -> y.setField(2, field, value), RANGE);
            }
        }
        Due.due("setField(2,2,258)", x.setField(2, 2, 258), 4);
        Due.due("the greater byte first", x.byteAt(2), 1);
        Due.due("then the lesser", x.byteAt(3), 2);
    }

    /** "Returns the number of fields of the layout of this overlay then", which may be fewer than before. */
    private static void setFieldCounts() {
        StructureEditor x = new StructureEditor();
        x.insert(0, 0, 64);
        Due.define(x, 0, "n:u1;d:u1*n;e:u1;", 3);
        Due.define(x, 1, "z:u1;", 1);
        Due.due("lay", x.lay(0, 0, 0), 2);
        Due.due("lay", x.lay(1, 1, 0), 1);
        Due.due("n = 58", x.setField(0, 0, 58), 60);
        Due.due("not broken", x.overlay(0, 3), 0);
        Due.due("n = 59", x.setField(0, 0, 59), 60);
        Due.due("broken", x.overlay(0, 3), 2);
        Due.due("by the other overlay", x.setField(1, 0, 0), 1);
        Due.due("fields of overlay 0", x.overlay(0, 2), 2);
        Due.due("setField(0,1,255)", x.setField(0, 1, 255), 2);
        Due.due("setField(0,2,255)", x.setField(0, 2, 255), BAD);
    }

    /**
     * Overlay 0 makes byte 2 a copy of byte 1; template 1 has its count there. With following the copy is not yet
     * made, so that the next change makes it: the count is 0 before and 3 after the update.
     */
    private static StructureEditor withACountToCome() {
        StructureEditor x = new StructureEditor();
        Due.bytes(x, 9, 3, 0, 7, 7, 7, 7);
        Due.define(x, 0, "a:u1;k:x(a,a);", 2);
        Due.define(x, 1, "n:u1;d:u1*n;", 2);
        Due.define(x, 2, "z:u1;n:u1;m:u1;d:u1*m;", 4);
        Due.due("lay", x.lay(0, 0, 1), 2);
        x.follow(true);
        return x;
    }

    /** lay(): "Returns the number of fields of its layout", which the update at the end of the change is a part of. */
    private static void layAnswersBehindTheUpdate() {
        StructureEditor x = withACountToCome();
        Due.due("lay(1,1,2)", x.lay(1, 1, 2), 4);
        Due.due("the count", x.value(1, 0), 3);
        x = withACountToCome();
        Due.due("lay(0,1,2): no check is left", x.lay(0, 1, 2), 1);
        // the check that the overlay itself brings
        x = withACountToCome();
        x.follow(false);
        x.remove(0);
        Due.due("lay(1,1,2)", x.lay(1, 1, 2), 1);
        x.follow(true);
        Due.due("lay(2,0,1)", x.lay(2, 0, 1), 2);
        Due.due("fields of the other overlay", x.overlay(1, 2), 4);
    }

    /** setField(): "Returns the number of fields of the layout of this overlay then": behind the update, too. */
    private static void setFieldAnswersBehindTheUpdate() {
        StructureEditor x = withACountToCome();
        x.follow(false);
        Due.due("lay(1,2,0)", x.lay(1, 2, 0), 3);
        x.follow(true);
        Due.due("setField(1,1,2): the count becomes 2", x.setField(1, 1, 2), 5);
        Due.due("setField(1,1,4): the count becomes 4", x.setField(1, 1, 4), 7);
        Due.due("setField(1,2,0): the count is 4 again", x.setField(1, 2, 0), 7);
        Due.due("setField(1,1,0): the count becomes 0", x.setField(1, 1, 0), 3);
        Due.due("setField(0,0,1): of the other overlay", x.setField(0, 0, 1), 2);
        Due.due("the count", x.value(1, 2), 1);
    }

    /** "What was laid before stays in the list.": all questions about fields answer for it, none for what is behind. */
    private static void brokenOverlays() {
        StructureEditor x = new StructureEditor();
        Due.bytes(x, 4, 9, 8);
        Due.define(x, 0, "a:u1;k:x(a,a);s:{b:u1;c:u4;};l:x(a,a);", 6);
        Due.define(x, 1, "k:u1;s:{c:u1;b:u1;};", 4);
        Due.due("lay(0,0,0)", x.lay(0, 0, 0), 3);
        Due.due("lay(1,1,0)", x.lay(1, 1, 0), 3);
        Due.due("broken", x.overlay(0, 3), 1);
        Due.due("expected(0,1)", x.expected(0, 1), 4);
        Due.due("expected(0,3)", x.expected(0, 3), BAD);
        Due.due("repair(0,1)", x.repair(0, 1), 9);
        Due.due("repair(0,3)", x.repair(0, 3), BAD);
        Due.due("overlay(0,5)", x.overlay(0, 5), 1);
        Due.due("count(1)", x.count(1), 1);
        counterparts(x, 0, 1, NONE, 0, 2);
        counterparts(x, 1, 0, 1, NONE, 2);
        Due.due("lay(2,0,0)", x.lay(2, 0, 0), 3);
        Due.due("count(1) of two broken overlays", x.count(1), 2);
    }
}
