/** Promises 18 to 26: overlays, their layouts and their fields. */
public final class OverlayTest {
    private static final int BAD = -1001, RANGE = -1004, NONE = -1009;

    private OverlayTest() {
    }

    public static void main(String[] args) {
        laying();
        removing();
        integers();
        gaps();
        structures();
        conditions();
        counts();
        ranges();
        brokenByBuffer();
        brokenByFields();
        brokenBySteps();
        orderOfBreaking();
        wrongArguments();
        fieldsAtBytes();
        counterparts();
        setting();
        Due.finish();
    }

    private static void laying() {
        StructureEditor x = new StructureEditor();
        Due.bytes(x, 1, 2, 3);
        Due.define(x, 0, "a:u1;", 1);
        Due.define(x, 1, "a:u1*2;", 1);
        Due.due("lay(-1,0,0)", x.lay(-1, 0, 0), BAD);
        Due.due("lay(4,0,0)", x.lay(4, 0, 0), BAD);
        Due.due("lay(0,-1,0)", x.lay(0, -1, 0), BAD);
        Due.due("lay(0,4,0)", x.lay(0, 4, 0), BAD);
        Due.due("lay(0,0,-1)", x.lay(0, 0, -1), BAD);
        Due.due("lay(0,0,4)", x.lay(0, 0, 4), BAD);
        Due.due("no error is a change", x.count(2), 3);
        Due.due("lay(3,0,2)", x.lay(3, 0, 2), 1);
        Due.due("lay(3,1,1) in its place", x.lay(3, 1, 1), 2);
        Due.due("lay(0,0,3) at the end", x.lay(0, 0, 3), 0);
        Due.due("lay is a change", x.count(2), 6);
        Due.due("count(0)", x.count(0), 2);
        property(x, 3, 1, 1, 2, 0, 3, 0);
        property(x, 0, 0, 3, 0, 1, 3, 0);
    }

    private static void property(StructureEditor x, int overlay, int... want) {
        for (int what = 0; what < want.length; what++) {
            Due.due("overlay(" + overlay + "," + what + ")", x.overlay(overlay, what), want[what]);
        }
    }

    private static void removing() {
        StructureEditor x = new StructureEditor();
        Due.bytes(x, 1, 2, 3);
        Due.due("remove(0) of none", x.remove(0), BAD);
        Due.due("remove(-1)", x.remove(-1), BAD);
        Due.due("remove(4)", x.remove(4), BAD);
        Due.due("lay(2,0,3)", x.lay(2, 0, 3), 0);
        Due.due("remove(2)", x.remove(2), 3);
        Due.due("remove(2) again", x.remove(2), BAD);
        Due.due("overlay(2,0)", x.overlay(2, 0), BAD);
        Due.buffer("after remove", x, 1, 2, 3);
        Due.due("remove is a change", x.count(2), 5);
    }

    private static void field(StructureEditor x, int overlay, int i, int... want) {
        for (int what = 0; what < want.length; what++) {
            Due.due("field(" + overlay + "," + i + "," + what + ")", x.field(overlay, i, what), want[what]);
        }
    }

    private static void integers() {
        StructureEditor x = new StructureEditor();
        Due.define(x, 0, "a:u1;b:i1;c:u2;d:u2<;e:i2;f:i2<;g:u4;h:u4<;i:i4;j:i4<;k:u1<;", 11);
        Due.bytes(x, 200, 200, 1, 2, 1, 2, 255, 254, 255, 254);
        Due.bytes(x, 255, 0, 0, 1, 255, 0, 0, 1, 128, 0, 0, 1, 1, 0, 0, 128, 9);
        Due.due("lay", x.lay(0, 0, 0), 11);
        long[] values = {200, -56, 258, 513, -2, -257, 4278190081L, 16777471L, -2147483647L, -2147483647L, 9};
        for (int i = 0; i < values.length; i++) {
            Due.due("value(0," + i + ")", x.value(0, i), values[i]);
        }
        field(x, 0, 0, 0, 1, 0, 0, NONE, NONE, 1);
        field(x, 0, 1, 1, 1, 1, 0, NONE, NONE, 1);
        field(x, 0, 3, 4, 2, 0, 1, NONE, NONE, 1);
        field(x, 0, 9, 22, 4, 1, 1, NONE, NONE, 1);
        field(x, 0, 10, 26, 1, 0, 1, NONE, NONE, 1);
        property(x, 0, 0, 0, 11, 0, 27, 0);
        Due.due("path(0,9,0)", x.path(0, 9, 0), 'j');
    }

    private static void gaps() {
        StructureEditor x = new StructureEditor();
        x.insert(0, 0, 30);
        Due.define(x, 0, "a:u1;@4;b:u1;.2;@4;c:u1;@1;@5;d:u1;.0;", 10);
        Due.due("lay", x.lay(0, 0, 3), 4);
        Due.due("start of a", x.field(0, 0, 0), 3);
        Due.due("start of b", x.field(0, 1, 0), 7);
        Due.due("start of c: aligned already after the gap of 2", x.field(0, 2, 0), 11);
        Due.due("start of d", x.field(0, 3, 0), 13);
        Due.due("end", x.overlay(0, 4), 14);
        Due.define(x, 1, ".999;@7;", 2);
        Due.due("lay beyond the buffer without a field", x.lay(1, 1, 30), 0);
        property(x, 1, 1, 30, 0, 0, 1031, 0);
    }

    private static void structures() {
        StructureEditor x = new StructureEditor();
        x.insert(0, 2, 40);
        Due.define(x, 0, "n:u1;s:{a:u1;t:{b:u2;c:u1*n;}*2;};e:{f:{g:{h:u1;};};};", 10);
        Due.due("lay", x.lay(1, 0, 1), 9);
        Due.due("path(1,0,0)", x.path(1, 0, 0), 'n');
        Due.due("path(1,0,1)", x.path(1, 0, 1), NONE);
        path(x, 1, 1, 's', 'a');
        path(x, 1, 2, 's', 't', 'b');
        path(x, 1, 3, 's', 't', 'c');
        path(x, 1, 4, 's', 't', 1000 + 'c');
        path(x, 1, 5, 's', 1000 + 't', 'b');
        path(x, 1, 7, 's', 1000 + 't', 1000 + 'c');
        path(x, 1, 8, 'e', 'f', 'g', 'h');
        Due.due("start of h", x.field(1, 8, 0), 11);
    }

    private static void path(StructureEditor x, int overlay, int i, int... want) {
        String name = "path(" + overlay + "," + i + ",";
        Due.due("field(" + overlay + "," + i + ",6)", x.field(overlay, i, 6), want.length);
        for (int level = 0; level < want.length; level++) {
            Due.due(name + level + ")", x.path(overlay, i, level), want[level]);
        }
        Due.due(name + want.length + ")", x.path(overlay, i, want.length), NONE);
        Due.due(name + "-1)", x.path(overlay, i, -1), NONE);
        Due.due(name + "MAX)", x.path(overlay, i, Integer.MAX_VALUE), NONE);
        Due.due(name + "MIN)", x.path(overlay, i, Integer.MIN_VALUE), NONE);
    }

    private static void conditions() {
        StructureEditor x = new StructureEditor();
        Due.bytes(x, 1, 5, 6, 7, 8);
        Due.define(x, 0, "a:u1;?a=1b:u1;?a=2c:u1;?c=0d:u1;?a=2.2;?a=1.1;e:u1*c;f:u1;", 8);
        Due.due("lay", x.lay(0, 0, 0), 4);
        Due.due("second is b", x.path(0, 1, 0), 'b');
        Due.due("third is d: the value of an absent item is 0", x.path(0, 2, 0), 'd');
        Due.due("fourth is f: no count of an absent item", x.path(0, 3, 0), 'f');
        Due.due("start of f", x.field(0, 3, 0), 4);
        Due.define(x, 1, "a:i1;?a=255b:u1;?a=1c:{d:u1;}*2;e:u1;", 5);
        Due.due("lay", x.lay(1, 1, 0), 4);
        Due.due("a = -1", x.setField(1, 0, -1), 2);
        Due.due("no value of -1 is 255", x.path(1, 1, 0), 'e');
    }

    private static void counts() {
        StructureEditor x = new StructureEditor();
        Due.bytes(x, 255, 2, 3, 4);
        Due.define(x, 0, "a:i1;b:u1*a;c:u1*0;d:{e:u1;}*a;f:u1;", 6);
        Due.due("a negative count is 0", x.lay(0, 0, 0), 2);
        Due.due("f", x.path(0, 1, 0), 'f');
        // each repetition has values of its own
        Due.define(x, 1, "s:{n:u1;d:u1*n;}*3;", 3);
        Due.due("setField", x.setField(0, 0, 0), 2);
        x.overwrite(1, 1);
        x.overwrite(3, 0);
        Due.due("lay of 0 1 3 0", x.lay(1, 1, 0), 4);
        path(x, 1, 0, 's', 'n');
        path(x, 1, 1, 1000 + 's', 'n');
        path(x, 1, 2, 1000 + 's', 'd');
        path(x, 1, 3, 2000 + 's', 'n');
        // a count beyond 999 counts as 999, and the steps end it
        x.insert(0, 255, 4);
        Due.define(x, 2, "a:u4;s:{}*a;", 2);
        Due.due("lay", x.lay(2, 2, 0), 1);
        property(x, 2, 2, 0, 1, 3, 4, 0);
        // the inner name is meant where an outer one has the same
        Due.define(x, 3, "a:u1;s:{a:u1;b:u1*a;};c:u1*a;", 5);
        StructureEditor y = new StructureEditor();
        Due.bytes(y, 1, 2, 9, 9, 8, 8, 8);
        Due.define(y, 3, "a:u1;s:{a:u1;b:u1*a;};c:u1*a;", 5);
        Due.due("lay of the inner name", y.lay(3, 3, 0), 5);
        Due.due("end", y.overlay(3, 4), 5);
    }

    private static void ranges() {
        StructureEditor x = new StructureEditor();
        x.insert(0, 1, 40);
        Due.define(x, 0, "a:u1;.2;s:{b:u2;k:x(b,b);}*2;?a=9d:u4;e:c(a,s);f:s(d,d);g:x(s,d);", 9);
        Due.due("lay", x.lay(0, 0, 5), 8);
        field(x, 0, 2, 10, 1, 2, 0, 8, 10, 2);
        field(x, 0, 4, 13, 1, 2, 0, 11, 13, 2);
        field(x, 0, 5, 14, 2, 4, 0, 5, 14, 1);
        field(x, 0, 6, 16, 2, 3, 0, 14, 14, 1);
        field(x, 0, 7, 18, 1, 2, 0, 8, 14, 1);
        // a gap before or after the named items belongs to the range only if it lies between them
        Due.define(x, 1, ".1;a:u1;@4;b:u1;.3;k:s(a,b);", 6);
        Due.due("lay", x.lay(1, 1, 0), 3);
        field(x, 1, 2, 8, 2, 3, 0, 1, 5, 1);
    }

    private static void brokenByBuffer() {
        StructureEditor x = new StructureEditor();
        x.insert(0, 1, 5);
        Due.define(x, 0, "a:u2;b:u4;c:u1;", 3);
        Due.due("lay(0,0,0)", x.lay(0, 0, 0), 1);
        property(x, 0, 0, 0, 1, 1, 2, 0);
        x.insert(0, 1, 1);
        property(x, 0, 0, 0, 2, 1, 6, 0);
        x.insert(0, 1, 1);
        property(x, 0, 0, 0, 3, 0, 7, 0);
        Due.define(x, 1, "a:u1*9;", 1);
        Due.due("lay(1,1,0)", x.lay(1, 1, 0), 7);
        property(x, 1, 1, 0, 7, 1, 7, 0);
        Due.define(x, 2, ".8;a:u1*0;b:x(a,a);", 3);
        Due.due("lay(2,2,0)", x.lay(2, 2, 0), 0);
        property(x, 2, 2, 0, 0, 1, 8, 0);
    }

    private static void brokenByFields() {
        StructureEditor x = new StructureEditor();
        x.insert(0, 1, 64);
        Due.define(x, 0, "a:u1*60;", 1);
        Due.due("60 fields", x.lay(0, 0, 0), 60);
        property(x, 0, 0, 0, 60, 0, 60, 0);
        Due.define(x, 1, "a:u1*61;.5;", 2);
        Due.due("61 fields", x.lay(1, 1, 0), 60);
        property(x, 1, 1, 0, 60, 2, 60, 0);
        Due.define(x, 2, "s:{a:u1;}*60;b:x(s,s);", 3);
        Due.due("60 fields and a check", x.lay(2, 2, 0), 60);
        property(x, 2, 2, 0, 60, 2, 60, 0);
    }

    private static void brokenBySteps() {
        StructureEditor x = new StructureEditor();
        x.insert(0, 1, 1);
        Due.define(x, 0, "s:{}*398;.7;", 2);
        Due.due("400 steps", x.lay(0, 0, 0), 0);
        property(x, 0, 0, 0, 0, 0, 7, 0);
        Due.define(x, 1, "s:{}*399;.7;", 2);
        Due.due("401 steps", x.lay(1, 1, 0), 0);
        property(x, 1, 1, 0, 0, 3, 0, 0);
        // an absent item is a step, too; 1 + 1 + 2 * 199 steps
        Due.define(x, 2, "a:u1;s:{?a=2.1;}*199;", 3);
        Due.due("400 steps", x.lay(2, 2, 0), 1);
        property(x, 2, 2, 0, 1, 0, 1, 0);
        Due.define(x, 3, "a:u1;s:{?a=1.1;}*200;", 3);
        Due.due("the 401st step is that of a structure", x.lay(3, 3, 0), 1);
        property(x, 3, 3, 0, 1, 3, 200, 0);
        x.remove(3);
        Due.define(x, 3, "s:{.1;}*200;", 2);
        Due.due("the 401st step is that of the last item", x.lay(3, 3, 0), 0);
        // the item s is one step, then each repetition makes two: 1 + 2 * 199 + 1 = 400
        property(x, 3, 3, 0, 0, 3, 199, 0);
    }

    private static void orderOfBreaking() {
        StructureEditor x = new StructureEditor();
        x.insert(0, 1, 60);
        // the 61st field would not lie in the buffer, either
        Due.define(x, 0, "a:u1*61;", 1);
        Due.due("61 fields", x.lay(0, 0, 0), 60);
        Due.due("reason", x.overlay(0, 3), 2);
        // repetitions of integers are no steps, and the step of the item is looked at first
        Due.define(x, 1, "a:u1*60;s:{}*397;b:u1;", 3);
        Due.due("60 fields, 400 steps", x.lay(1, 1, 0), 60);
        Due.due("reason: the 61st field", x.overlay(1, 3), 2);
        Due.define(x, 2, "a:u1*60;s:{}*398;b:u1;", 3);
        Due.due("60 fields, 401 steps", x.lay(2, 2, 0), 60);
        Due.due("reason: the 401st step", x.overlay(2, 3), 3);
    }

    private static void wrongArguments() {
        StructureEditor x = new StructureEditor();
        x.insert(0, 1, 3);
        Due.define(x, 0, "a:u1;b:u1;", 2);
        Due.due("lay", x.lay(0, 0, 0), 2);
        int[] overlays = {-1, 1, 4, Integer.MAX_VALUE, Integer.MIN_VALUE};
        for (int overlay : overlays) {
            Due.due("overlay", x.overlay(overlay, 0), BAD);
            Due.due("field", x.field(overlay, 0, 0), BAD);
            Due.due("value", x.value(overlay, 0), Long.MIN_VALUE);
            Due.due("path", x.path(overlay, 0, 0), BAD);
            Due.due("fieldAt", x.fieldAt(overlay, 0), BAD);
            Due.due("counterpart", x.counterpart(overlay, 0, 0), BAD);
            Due.due("counterpart, other", x.counterpart(0, 0, overlay), BAD);
            Due.due("setField", x.setField(overlay, 0, 0), BAD);
        }
        int[] fields = {-1, 2, 60, Integer.MAX_VALUE, Integer.MIN_VALUE};
        for (int i : fields) {
            Due.due("field", x.field(0, i, 0), BAD);
            Due.due("value", x.value(0, i), Long.MIN_VALUE);
            Due.due("path", x.path(0, i, 0), BAD);
            Due.due("path", x.path(0, i, 9), BAD);
            Due.due("counterpart", x.counterpart(0, i, 0), BAD);
            Due.due("setField", x.setField(0, i, 256), BAD);
        }
        Due.due("overlay(0,-1)", x.overlay(0, -1), BAD);
        Due.due("overlay(0,6)", x.overlay(0, 6), BAD);
        Due.due("field(0,0,-1)", x.field(0, 0, -1), BAD);
        Due.due("field(0,0,7)", x.field(0, 0, 7), BAD);
        Due.due("no error is a change", x.count(2), 2);
    }

    private static void fieldsAtBytes() {
        StructureEditor x = new StructureEditor();
        x.insert(0, 1, 9);
        Due.define(x, 0, "a:u2;.1;b:u4;", 3);
        Due.due("lay", x.lay(0, 0, 1), 2);
        int[] want = {NONE, 0, 0, NONE, 1, 1, 1, 1, NONE};
        for (int at = 0; at < want.length; at++) {
            Due.due("fieldAt(0," + at + ")", x.fieldAt(0, at), want[at]);
        }
        Due.due("fieldAt(0,9)", x.fieldAt(0, 9), BAD);
        Due.due("fieldAt(0,-1)", x.fieldAt(0, -1), BAD);
    }

    private static void counterparts() {
        StructureEditor x = new StructureEditor();
        x.insert(0, 2, 40);
        Due.define(x, 0, "a:u1;s:{b:u1*3;}*2;c:u1;", 4);
        Due.define(x, 1, "c:u2;s:{d:u1;b:u1*2;}*3;b:u1;", 5);
        Due.due("lay(0)", x.lay(0, 0, 0), 8);
        Due.due("lay(1)", x.lay(1, 1, 3), 11);
        int[] want = {NONE, 2, 3, NONE, 5, 6, NONE, 0};
        for (int i = 0; i < want.length; i++) {
            Due.due("counterpart(0," + i + ",1)", x.counterpart(0, i, 1), want[i]);
            Due.due("counterpart(0," + i + ",0)", x.counterpart(0, i, 0), i);
        }
        Due.due("b of 1 has another path", x.counterpart(1, 10, 0), NONE);
        Due.due("counterpart(1,6,0)", x.counterpart(1, 6, 0), 5);
        Due.due("counterpart(1,9,0): no third repetition", x.counterpart(1, 9, 0), NONE);
    }

    private static void setting() {
        StructureEditor x = new StructureEditor();
        x.insert(0, 0, 20);
        Due.define(x, 0, "a:u1;b:i1;c:u2<;d:i2;e:u4;f:i4<;g:x(a,a);h:s(a,a);", 8);
        Due.due("lay", x.lay(0, 0, 0), 8);
        long[] least = {0, -128, 0, -32768, 0, -2147483648L, 0, 0};
        long[] most = {255, 127, 65535, 32767, 4294967295L, 2147483647L, 255, 65535};
        for (int i = 0; i < least.length; i++) {
            Due.due("below " + i, x.setField(0, i, least[i] - 1), RANGE);
            Due.due("above " + i, x.setField(0, i, most[i] + 1), RANGE);
            Due.due("MIN " + i, x.setField(0, i, Long.MIN_VALUE), RANGE);
            Due.due("MAX " + i, x.setField(0, i, Long.MAX_VALUE), RANGE);
            Due.due("least " + i, x.setField(0, i, least[i]), 8);
            Due.due("value least " + i, x.value(0, i), least[i]);
            Due.due("most " + i, x.setField(0, i, most[i]), 8);
            Due.due("value most " + i, x.value(0, i), most[i]);
        }
        Due.due("c", x.setField(0, 2, 0x1234), 8);
        Due.due("d", x.setField(0, 3, -2), 8);
        Due.due("e", x.setField(0, 4, 0x12345678L), 8);
        Due.due("f", x.setField(0, 5, -2), 8);
        Due.buffer("after setField", x, 255, 127, 0x34, 0x12, 255, 254, 0x12, 0x34, 0x56, 0x78,
                254, 255, 255, 255, 255, 255, 255, 0, 0, 0);
        // the number of fields is that after the change
        Due.define(x, 1, "n:u1;d:u1*n;", 2);
        x.insert(0, 0, 4);
        Due.due("lay(1)", x.lay(1, 1, 0), 1);
        Due.due("n = 3", x.setField(1, 0, 3), 4);
    }
}
