/** The boundary cases of layouts: what the description says of items, counts, ranges, steps and breaks. */
public final class LayoutBoundsTest {
    private static final int BAD = -1001, NONE = -1009;

    private LayoutBoundsTest() {
    }

    public static void main(String[] args) {
        conditionsAtTheirNumber();
        absentHasNoEffect();
        gaps();
        alignment();
        alignmentFromTheOffset();
        unsignedAndSigned();
        byteOrder();
        counts();
        countsOfNames();
        countsThatWrapNot();
        structuresRepeat();
        valuesOfTheRepetition();
        rangesOfTheRepetition();
        absentItems();
        rangesAtTheEdges();
        fieldsAtTheEndOfTheBuffer();
        offsetAtTheEndOfTheBuffer();
        positionBeyondTheBuffer();
        sixtyFields();
        fourHundredSteps();
        whatIsAStep();
        stepsBeforeFields();
        fieldsBeforeBuffer();
        stepsBeforeBuffer();
        whatWasLaidStays();
        brokenLayoutsHeal();
        Due.finish();
    }

    private static StructureEditor laid(String template, int... bytes) {
        return laidAt(0, template, bytes);
    }

    /** Overlay 0 with a template over bytes, from an offset on. */
    private static StructureEditor laidAt(int offset, String template, int... bytes) {
        StructureEditor x = new StructureEditor();
        x.clearText();
        for (int i = 0; i < template.length(); i++) {
            x.type(template.charAt(i));
        }
        Due.due("define of '" + template + "' has no error", x.define(0) >= 0 ? 1 : 0, 1);
        for (int i = 0; i < bytes.length; i++) {
            x.insert(i, bytes[i], 1);
        }
        Due.due("lay has no error", x.lay(0, 0, offset) >= 0 ? 1 : 0, 1);
        return x;
    }

    private static StructureEditor over(int length, String template) {
        return laid(template, new int[length]);
    }

    private static void layout(String name, StructureEditor x, int fields, int reason, int end) {
        Due.due("fields of " + name, x.overlay(0, 2), fields);
        Due.due("reason of " + name, x.overlay(0, 3), reason);
        Due.due("end of " + name, x.overlay(0, 4), end);
    }

    private static void starts(String name, StructureEditor x, int... want) {
        Due.due("fields of " + name, x.overlay(0, 2), want.length);
        for (int i = 0; i < want.length; i++) {
            Due.due("start of field " + i + " of " + name, x.field(0, i, 0), want[i]);
        }
    }

    /** "An item with "?" is absent if the value of the item of that name is not equal to the number." */
    private static void conditionsAtTheirNumber() {
        int[][] cases = {{7, 6, 0}, {7, 7, 1}, {7, 8, 0}, {0, 0, 1}, {0, 1, 0}, {255, 255, 1}, {255, 254, 0}};
        for (int[] c : cases) {
            String template = "a:u1;?a=" + c[0] + "b:u1;";
            Due.due("a=" + c[1] + " and ?a=" + c[0], laid(template, c[1], 0).overlay(0, 2), 1 + c[2]);
        }
        Due.due("?a=999 at 999", laid("a:u2;?a=999b:u1;", 3, 231, 0).overlay(0, 2), 2);
        Due.due("?a=999 at 998", laid("a:u2;?a=999b:u1;", 3, 230, 0).overlay(0, 2), 1);
        Due.due("?a=999 at 1000", laid("a:u2;?a=999b:u1;", 3, 232, 0).overlay(0, 2), 1);
        Due.due("no value of -1 is 255", laid("a:i1;?a=255b:u1;", 255, 0).overlay(0, 2), 1);
        Due.due("a signed 127", laid("a:i1;?a=127b:u1;", 127, 0).overlay(0, 2), 2);
        Due.due("a signed -128 is not 128", laid("a:i1;?a=128b:u1;", 128, 0).overlay(0, 2), 1);
        Due.due("256 is not 0", laid("a:u2;?a=0b:u1;", 1, 0, 0).overlay(0, 2), 1);
        Due.due("65536 is not 0", laid("a:u4;?a=0b:u1;", 0, 1, 0, 0, 0).overlay(0, 2), 1);
    }

    /** "An absent item has no effect.", of each kind. */
    private static void absentHasNoEffect() {
        for (String item : new String[] {"b:u4;", "b:u1*9;", ".99;", "@9;", "b:{c:u1;}*3;", "b:x(a,a);", "b:u1*a;"}) {
            StructureEditor x = laid("a:u1;?a=2" + item + "z:u1;", 1, 5);
            starts("an absent " + item, x, 0, 1);
            Due.due("the second is z", x.path(0, 1, 0), 'z');
            layout("an absent " + item, x, 2, 0, 2);
        }
    }

    /** '"." n: the position increases by n': 0 to 999. */
    private static void gaps() {
        starts(".0", over(5, "a:u1;.0;b:u1;"), 0, 1);
        starts(".1", over(5, "a:u1;.1;b:u1;"), 0, 2);
        starts("the last byte", over(5, "a:u1;.3;b:u1;"), 0, 4);
        layout("behind the last byte", over(5, "a:u1;.4;b:u1;"), 1, 1, 5);
        layout(".999", over(0, ".999;"), 0, 0, 999);
        layout("24 times .999", over(0, ".999;".repeat(24)), 0, 0, 24 * 999);
    }

    /** '"@" n: the position increases to the least value whose difference from the offset is a multiple of n'. */
    private static void alignment() {
        starts("@4 at 0", over(9, "@4;a:u1;"), 0);
        starts("@4 at 1", over(9, ".1;@4;a:u1;"), 4);
        starts("@4 at 3", over(9, ".3;@4;a:u1;"), 4);
        starts("@4 at 4", over(9, ".4;@4;a:u1;"), 4);
        starts("@4 at 5", over(9, ".5;@4;a:u1;"), 8);
        starts("@4 twice", over(9, ".1;@4;@4;a:u1;"), 4);
        starts("@1", over(9, ".5;@1;a:u1;"), 5);
        layout("@999 at 1", over(1, "a:u1;@999;"), 1, 0, 999);
        layout("@999 at 999", over(0, ".999;@999;"), 0, 0, 999);
        layout("@999 at 1000", over(0, ".999;.1;@999;"), 0, 0, 1998);
    }

    /** The multiples count from the offset of the overlay, also inside of structures. */
    private static void alignmentFromTheOffset() {
        StructureEditor x = laidAt(3, "a:u1;@4;b:u1;", new int[12]);
        starts("@4 from 3 on", x, 3, 7);
        x.insert(0, 0, 2);
        starts("@4 from 5 on", x, 5, 9);
        x = laidAt(1, ".1;s:{a:u1;@4;}*2;b:u1;", new int[12]);
        starts("@4 in a structure", x, 2, 5, 9);
        x = laidAt(5, "@4;a:u1;", new int[6]);
        starts("@4 at the offset 5", x, 5);
    }

    private static void value(String type, long want, int... bytes) {
        StructureEditor x = laid("a:" + type + ";", bytes);
        Due.due("value of " + type, x.value(0, 0), want);
        Due.due("size of " + type, x.field(0, 0, 1), bytes.length);
    }

    /** "u is unsigned, i is signed in two's complement": the least and the greatest values and those at the turn. */
    private static void unsignedAndSigned() {
        value("u1", 0, 0);
        value("u1", 127, 127);
        value("u1", 128, 128);
        value("u1", 255, 255);
        value("i1", 0, 0);
        value("i1", 127, 127);
        value("i1", -128, 128);
        value("i1", -1, 255);
        value("u2", 32767, 127, 255);
        value("u2", 32768, 128, 0);
        value("u2", 65535, 255, 255);
        value("i2", 32767, 127, 255);
        value("i2", -32768, 128, 0);
        value("i2", -1, 255, 255);
        value("u4", 2147483647L, 127, 255, 255, 255);
        value("u4", 2147483648L, 128, 0, 0, 0);
        value("u4", 4294967295L, 255, 255, 255, 255);
        value("i4", 2147483647L, 127, 255, 255, 255);
        value("i4", -2147483648L, 128, 0, 0, 0);
        value("i4", -1, 255, 255, 255, 255);
    }

    /** 'The bytes are in big-endian order, with "<" in little-endian order.' */
    private static void byteOrder() {
        value("u1<", 128, 128);
        value("i1<", -128, 128);
        value("u2", 0x0102, 1, 2);
        value("u2<", 0x0201, 1, 2);
        value("u4", 0x01020304, 1, 2, 3, 4);
        value("u4<", 0x04030201, 1, 2, 3, 4);
        value("i2<", -32768, 0, 128);
        value("i2<", 128, 128, 0);
        value("i4<", -2147483648L, 0, 0, 0, 128);
        value("i4<", 2147483647L, 255, 255, 255, 127);
        value("u4<", 4294967295L, 255, 255, 255, 255);
    }

    /** "With a count, so many fields are laid, one after the other.": 0, 1, 60 of them. */
    private static void counts() {
        layout("*0", over(9, "a:u2*0;"), 0, 0, 0);
        layout("*1", over(9, "a:u2*1;"), 1, 0, 2);
        layout("*4", over(9, "a:u2*4;"), 4, 0, 8);
        layout("*5", over(9, "a:u2*5;"), 4, 1, 8);
        layout("*60", over(64, "a:u1*60;"), 60, 0, 60);
        layout("*999", over(64, "a:u1*999;"), 60, 2, 60);
        layout("{}*0", over(9, "a:{b:u1;}*0;"), 0, 0, 0);
        layout("{}*1", over(9, "a:{b:u1;}*1;"), 1, 0, 1);
        layout("{} without a count", over(9, "a:{b:u1;};"), 1, 0, 1);
        layout("{}*9", over(9, "a:{b:u1;}*9;"), 9, 0, 9);
        layout("{}*10", over(9, "a:{b:u1;}*10;"), 9, 1, 9);
    }

    /**
     * "A count that is a name is the value of the item of this name, but 0 if this is negative, and 999 if it is
     * greater." No layout gets as far as 999, so that only its break can be seen.
     */
    private static void countsOfNames() {
        String[] ends = {"b:u1*n;", "b:{c:u1;}*n;"};
        for (String end : ends) {
            layout("n = 0", laid("n:u1;" + end, 0, 9, 9), 1, 0, 1);
            layout("n = 1", laid("n:u1;" + end, 1, 9, 9), 2, 0, 2);
            layout("n = 2", laid("n:u1;" + end, 2, 9, 9), 3, 0, 3);
            layout("n = 3", laid("n:u1;" + end, 3, 9, 9), 3, 1, 3);
            layout("n = -1", laid("n:i1;" + end, 255, 9, 9), 1, 0, 1);
            layout("n = -128", laid("n:i1;" + end, 128, 9, 9), 1, 0, 1);
            layout("n = 127", laid("n:i1;" + end, 127, 9, 9), 3, 1, 3);
            layout("n = 255", laid("n:u1;" + end, 255, 9, 9), 3, 1, 3);
            layout("n = -32768", laid("n:i2;" + end, 128, 0, 9), 1, 0, 2);
            layout("n = 999", laid("n:u2;" + end, 3, 231, 9), 2, 1, 3);
            layout("n = 1000", laid("n:u2;" + end, 3, 232, 9), 2, 1, 3);
        }
        layout("999 empty structures", laid("n:u2;b:{}*n;", 3, 231), 1, 3, 2);
        layout("1000 empty structures", laid("n:u2;b:{}*n;", 3, 232), 1, 3, 2);
        layout("65535 empty structures", laid("n:u2;b:{}*n;", 255, 255), 1, 3, 2);
    }

    /** A value beyond an int is great, not negative. */
    private static void countsThatWrapNot() {
        int[][] great = {{127, 255, 255, 255}, {128, 0, 0, 0}, {255, 255, 255, 255}, {255, 255, 255, 254}, {1, 0, 0, 0}};
        for (int[] bytes : great) {
            layout("u4 of " + bytes[0], laid("n:u4;b:{}*n;", bytes), 1, 3, 4);
            layout("u4 of " + bytes[0], laid("n:u4;b:u1*n;", bytes), 1, 1, 4);
        }
        layout("i4 of -2147483648", laid("n:i4;b:{}*n;", 128, 0, 0, 0), 1, 0, 4);
        layout("i4 of -1", laid("n:i4;b:{}*n;", 255, 255, 255, 255), 1, 0, 4);
        layout("i4 of 2147483647", laid("n:i4;b:{}*n;", 127, 255, 255, 255), 1, 3, 4);
        layout("i4< of -2147483648", laid("n:i4<;b:u1*n;", 0, 0, 0, 128), 1, 0, 4);
    }

    /** "A structure goes through its items, as often as its count says; without a count once." */
    private static void structuresRepeat() {
        starts("2 times 3", over(9, "a:{b:{c:u1;}*3;}*2;"), 0, 1, 2, 3, 4, 5);
        starts("3 times 0", over(9, "a:{b:{c:u1;}*0;}*3;d:u1;"), 0);
        starts("0 times 3", over(9, "a:{b:{c:u1;}*3;}*0;d:u1;"), 0);
        starts("empty", over(9, "a:{};b:{}*9;d:u1;"), 0);
    }

    /** "Names refer to values and ranges in the present repetition of the structures around them." */
    private static void valuesOfTheRepetition() {
        StructureEditor x = laid("s:{n:u1;d:u1*n;}*4;", 2, 9, 9, 0, 1, 9, 0);
        starts("counts of each repetition", x, 0, 1, 2, 3, 4, 5, 6);
        layout("counts of each repetition", x, 7, 0, 7);
        x = laid("s:{n:u1;?n=1d:u2;}*3;e:u1;", 0, 1, 9, 9, 0, 7);
        starts("conditions of each repetition", x, 0, 1, 2, 4, 5);
        // an absent item has the value 0, not that of the repetition before
        x = laid("s:{n:u1;?n=1m:u1;d:u1*m;}*2;", 1, 2, 9, 9, 0);
        starts("an absent count", x, 0, 1, 2, 3, 4);
        layout("an absent count", x, 5, 0, 5);
        // the outer name stays the same for all repetitions
        x = laid("n:u1;s:{d:u1*n;}*2;", 2, 1, 1, 1, 1);
        layout("an outer count", x, 5, 0, 5);
        // the name of an outer structure's item means that of its present repetition
        x = laid("s:{n:u1;t:{d:u1*n;e:u1;}*2;}*3;f:u1;", 1, 10, 11, 12, 13, 0, 14, 15, 2, 16, 17, 18, 19, 20, 21, 22);
        starts("an outer count of each repetition", x, 0, 1, 2, 3, 4, 5, 6, 7, 8, 9, 10, 11, 12, 13, 14, 15);
        Due.due("the last e", x.path(0, 14, 2), 'e');
        Due.due("f", x.path(0, 15, 0), 'f');
        x = laid("s:{n:u1;t:{?n=1d:u1;}*2;}*3;", 1, 10, 11, 0, 1, 12, 13);
        starts("an outer condition of each repetition", x, 0, 1, 2, 3, 4, 5, 6);
        layout("an outer condition of each repetition", x, 7, 0, 7);
    }

    private static void range(StructureEditor x, int i, int start, int end) {
        Due.due("start of the range of field " + i, x.field(0, i, 4), start);
        Due.due("end of the range of field " + i, x.field(0, i, 5), end);
    }

    /** "The items of each repetition have values and ranges of their own." */
    private static void rangesOfTheRepetition() {
        StructureEditor x = over(12, "s:{a:u1;b:u2;k:x(a,b);}*3;");
        range(x, 2, 0, 3);
        range(x, 5, 4, 7);
        range(x, 8, 8, 11);
        x = laid("s:{n:u1;?n=1a:u1;k:x(a,a);}*2;", 1, 5, 5, 0, 0);
        range(x, 2, 1, 2);
        range(x, 4, 4, 4);
        Due.due("the range of the absent one is empty", x.expected(0, 4), 0);
        // structures in structures: the range is that of the inner one's latest going through
        x = over(20, "s:{.1;t:{a:u1;}*2;k:x(t,t);}*2;l:x(s,s);");
        range(x, 2, 1, 3);
        range(x, 5, 5, 7);
        range(x, 6, 0, 8);
    }

    /**
     * "If the item of a name is absent, its value is 0, and its range is empty, at the position where it was gone
     * through."
     */
    private static void absentItems() {
        StructureEditor x = laid("a:u1;?a=9b:u1;?b=0c:u1;d:u1*b;?b=1e:u1;f:u1;", 1, 7, 7);
        starts("the value 0", x, 0, 1, 2);
        Due.due("c is there", x.path(0, 1, 0), 'c');
        Due.due("f is there", x.path(0, 2, 0), 'f');
        x = laid("a:u1;?a=9b:u4;c:u2;k:c(b,b);l:c(a,b);m:c(b,c);", 1, 2, 3, 0, 0, 0, 0, 0, 0);
        range(x, 2, 1, 1);
        range(x, 3, 0, 1);
        range(x, 4, 1, 3);
        Due.due("expected of an empty range", x.expected(0, 2), 65535);
        x = laid("a:u1;.2;?a=9s:{b:u1;};@4;k:x(s,s);", 1, 2, 3, 4, 5);
        range(x, 1, 3, 3);
        // also where an inner block refers to it, and where it stood in the repetition before
        x = laid("a:u1;?a=9b:u1;s:{?b=0c:u1;d:u1*b;};f:u1;", 1, 7, 8);
        starts("the value 0 for an inner block", x, 0, 1, 2);
        Due.due("c is there", x.path(0, 1, 1), 'c');
        x = laid("s:{n:u1;?n=1b:u1;t:{d:u1*b;};}*3;", 1, 2, 9, 9, 0, 1, 1, 9);
        starts("the value 0 of the second repetition", x, 0, 1, 2, 3, 4, 5, 6, 7);
        // an absent check has an empty range for others, too
        x = laid("a:u1;?a=9b:x(a,a);k:x(b,b);l:x(a,b);", 1, 2, 3);
        range(x, 1, 1, 1);
        range(x, 2, 0, 1);
    }

    /** "Its range is from the position before the first item of the parentheses to the position after the second one." */
    private static void rangesAtTheEdges() {
        StructureEditor x = over(20, ".1;a:u1;.1;b:u2*2;@4;s:{c:u1;.1;};.1;k:x(a,a);l:x(a,b);m:x(b,s);n:x(s,s);o:x(k,l);");
        range(x, 4, 1, 2);
        range(x, 5, 1, 7);
        range(x, 6, 3, 10);
        range(x, 7, 8, 10);
        range(x, 8, 11, 13);
        x = over(9, "a:u1*0;s:{}*3;t:{b:u1;}*0;k:x(a,a);l:x(s,s);m:x(t,t);n:x(a,t);");
        for (int i = 0; i < 4; i++) {
            range(x, i, 0, 0);
        }
        x = over(9, "t:{b:u1;}*3;k:x(t,t);");
        range(x, 3, 0, 3);
        // the range may reach from the first byte of a full buffer to the check at its end
        x = new StructureEditor();
        for (int n = 0; n < 4; n++) {
            x.insert(0, 255, 50);
        }
        Due.define(x, 0, "a:{.198;};k:s(a,a);", 3);
        Due.due("lay", x.lay(0, 0, 0), 1);
        range(x, 0, 0, 198);
        Due.due("the greatest sum", x.expected(0, 0), 198 * 255);
    }

    /** "broken, and ends at once, if a field does not lie in the buffer completely (reason 1)". */
    private static void fieldsAtTheEndOfTheBuffer() {
        String[] types = {"u1", "u2", "u4", "i1", "i2<", "i4<", "x(e,e)", "s(e,e)", "c(e,e)"};
        int[] sizes = {1, 2, 4, 1, 2, 4, 1, 2, 2};
        for (int n = 0; n < types.length; n++) {
            String template = "e:{};.3;a:" + types[n] + ";.5;";
            layout(types[n] + " that fits", over(3 + sizes[n], template), 1, 0, 8 + sizes[n]);
            layout(types[n] + " but for a byte", over(2 + sizes[n], template), 0, 1, 3);
            layout(types[n] + " at the end", over(3, template), 0, 1, 3);
            layout(types[n] + " behind the end", over(2, template), 0, 1, 3);
        }
        layout("in a full buffer", over(200, ".196;a:u4;"), 1, 0, 200);
        layout("beyond a full buffer", over(200, ".197;a:u4;"), 0, 1, 197);
        layout("far beyond a full buffer", over(200, ".999;a:u1;"), 0, 1, 999);
    }

    /** "A present overlay has a template and an offset, from 0 to the length of the buffer." */
    private static void offsetAtTheEndOfTheBuffer() {
        layout("an integer at the length", laidAt(3, "a:u1;", 1, 2, 3), 0, 1, 3);
        layout("no item at the length", laidAt(3, "", 1, 2, 3), 0, 0, 3);
        layout("a gap at the length", laidAt(3, ".7;", 1, 2, 3), 0, 0, 10);
        layout("the last byte", laidAt(2, "a:u1;", 1, 2, 3), 1, 0, 3);
        layout("an integer in an empty buffer", laid("a:u1;"), 0, 1, 0);
        layout("no integer in an empty buffer", laid("a:u1*0;"), 0, 0, 0);
    }

    /** Only fields must lie in the buffer: gaps, alignments and what lays no field may go beyond it. */
    private static void positionBeyondTheBuffer() {
        layout("gaps", over(2, "a:u1;.9;@4;b:u1*0;c:{.1;}*2;d:{}*3;"), 1, 0, 14);
        layout("a field behind them", over(2, "a:u1;.9;@4;b:u1*0;c:{.1;}*2;d:{}*3;e:u1;"), 1, 1, 14);
        layout("an absent field", over(2, "a:u1;.9;?a=1b:u1;"), 1, 0, 10);
        layout("a check behind the end", over(2, "a:u1;.9;k:x(a,a);"), 1, 1, 10);
    }

    /** "if a 61st field would be laid (reason 2)". */
    private static void sixtyFields() {
        layout("60 of a count", over(70, "a:u1*60;.3;"), 60, 0, 63);
        layout("61 of a count", over(70, "a:u1*61;.3;"), 60, 2, 60);
        layout("59 and 1", over(70, "a:u1*59;b:u1;"), 60, 0, 60);
        layout("60 and 1", over(70, "a:u1*60;b:u1;"), 60, 2, 60);
        layout("60 and a check", over(70, "a:u1*60;b:x(a,a);"), 60, 2, 60);
        layout("59 and a check", over(70, "a:u1*59;b:x(a,a);"), 60, 0, 60);
        layout("60 and what lays none", over(70, "a:u1*60;b:u1*0;.1;@1;c:{}*2;"), 60, 0, 61);
        layout("60 of structures", over(70, "s:{a:u1;}*60;"), 60, 0, 60);
        layout("61 of structures", over(70, "s:{a:u1;}*61;"), 60, 2, 60);
        layout("20 times 3", over(70, "s:{a:u1;b:{c:u1*2;};}*20;"), 60, 0, 60);
        layout("20 times 3 and 1", over(70, "s:{a:u1;b:{c:u1*2;};}*21;"), 60, 2, 60);
        Due.due("field(0,59,0)", over(70, "a:u1*61;").field(0, 59, 0), 59);
        Due.due("field(0,60,0)", over(70, "a:u1*61;").field(0, 60, 0), BAD);
        Due.due("value(0,60)", over(70, "a:u1*61;").value(0, 60), Long.MIN_VALUE);
    }

    /** "if a 401st step would be made (reason 3)". */
    private static void fourHundredSteps() {
        layout("400 steps", over(1, "s:{}*399;"), 0, 0, 0);
        layout("401 steps", over(1, "s:{}*400;"), 0, 3, 0);
        layout("999 repetitions", over(1, "s:{}*999;"), 0, 3, 0);
        layout("400 with an item", over(1, "s:{}*398;a:u1;"), 1, 0, 1);
        layout("401 with an item", over(1, "s:{}*399;a:u1;"), 0, 3, 0);
        layout("400 with a gap", over(1, "s:{}*398;.1;"), 0, 0, 1);
        layout("401 with a gap", over(1, "s:{}*399;.1;"), 0, 3, 0);
        layout("400 with an alignment", over(1, "a:u1;s:{}*397;@4;"), 1, 0, 4);
        layout("401 with an alignment", over(1, "a:u1;s:{}*398;@4;"), 1, 3, 1);
        layout("400 with a check", over(2, "a:u1;s:{}*397;k:x(a,a);"), 2, 0, 2);
        layout("401 with a check", over(2, "a:u1;s:{}*398;k:x(a,a);"), 1, 3, 1);
        layout("400 with a structure", over(2, "s:{}*397;t:{};"), 0, 0, 0);
        layout("401 with a structure", over(2, "s:{}*398;t:{};"), 0, 3, 0);
        layout("400 with a structure of no repetition", over(2, "s:{}*398;t:{}*0;"), 0, 0, 0);
        layout("401 with a structure of no repetition", over(2, "s:{}*399;t:{}*0;"), 0, 3, 0);
    }

    /**
     * "each time an item is gone through is a step, also an absent one, and each time that a structure goes through
     * its items is a step of its own, which is made before them; repetitions of an integer item are no steps".
     */
    private static void whatIsAStep() {
        // s, then for each repetition its own step and that of the item: 1 + 2 * 199 = 399
        layout("399 steps and one more", over(1, "s:{.1;}*199;.1;"), 0, 0, 200);
        layout("399 steps and two more", over(1, "s:{.1;}*199;.1;.1;"), 0, 3, 200);
        layout("the step of a repetition is the 400th", over(1, "s:{.1;}*200;"), 0, 3, 199);
        layout("absent items", over(1, "a:u1;s:{?a=1.1;}*199;"), 1, 0, 1);
        layout("absent items, the 401st is one", over(1, "a:u1;s:{?a=1.1;}*199;?a=1.1;"), 1, 3, 1);
        layout("a last absent item", over(1, "s:{}*397;a:u1;?a=1b:u4;"), 1, 0, 1);
        layout("a last absent item too many", over(1, "s:{}*398;a:u1;?a=1b:u4;"), 1, 3, 1);
        layout("an absent structure makes one step", over(1, "s:{}*397;a:u1;?a=1b:{.1;}*9;"), 1, 0, 1);
        layout("integers of a count make one step", over(64, "s:{}*398;a:u1*60;"), 60, 0, 60);
        layout("integers of no count make one step", over(64, "s:{}*398;a:u1*0;"), 0, 0, 0);
        // 1 + 19 * (1 + 1 + 19 * 1) = 400
        layout("nested: 400 steps", over(1, "s:{t:{}*19;}*19;"), 0, 0, 0);
        layout("nested: 401 steps", over(1, "s:{t:{}*19;}*19;.1;"), 0, 3, 0);
        // the step of a repetition comes before those of its items: .1 is reached 57 times in 400 steps
        layout("seven steps each", over(1, "s:{.1;.1;.1;.1;.1;.1;}*57;"), 0, 0, 342);
        layout("seven steps each, one too many", over(1, "s:{.1;.1;.1;.1;.1;.1;}*58;"), 0, 3, 342);
        layout("six of the 58th", over(1, "s:{.1;.1;.1;.1;.1;}*67;"), 0, 3, 332);
    }

    /** "The check of steps comes first, then that of the 61st field". */
    private static void stepsBeforeFields() {
        layout("61st field in the 400th step", over(70, "a:u1*60;s:{}*397;b:u1;"), 60, 2, 60);
        layout("61st field in the 401st step", over(70, "a:u1*60;s:{}*398;b:u1;"), 60, 3, 60);
        layout("61st field, a check, in the 401st step", over(70, "a:u1*60;s:{}*398;b:x(a,a);"), 60, 3, 60);
    }

    /** "then that of the 61st field, then that of the buffer". */
    private static void fieldsBeforeBuffer() {
        layout("61st field beyond the buffer", over(60, "a:u1*61;"), 60, 2, 60);
        layout("61st field of 4 bytes beyond the buffer", over(62, "a:u1*60;b:u4;"), 60, 2, 60);
        layout("60th field beyond the buffer", over(59, "a:u1*61;"), 59, 1, 59);
        layout("61st field far beyond the buffer", over(60, "a:u1*60;.99;k:c(a,a);"), 60, 2, 159);
    }

    /** "The check of steps comes first", before that of the buffer, too. */
    private static void stepsBeforeBuffer() {
        layout("400th step beyond the buffer", over(1, "s:{}*398;a:u2;"), 0, 1, 0);
        layout("401st step beyond the buffer", over(1, "s:{}*399;a:u2;"), 0, 3, 0);
        layout("all three", over(60, "a:u1*60;s:{}*398;b:u1;"), 60, 3, 60);
    }

    /** "What was laid before stays in the list."; the layout "ends at once". */
    private static void whatWasLaidStays() {
        StructureEditor x = laid("a:u1;b:{c:u2;d:u4;}*2;.9;e:u1;", 1, 2, 3, 4, 5, 6, 7, 8, 9, 10);
        layout("broken in the second repetition", x, 4, 1, 9);
        starts("broken in the second repetition", x, 0, 1, 3, 7);
        Due.due("the last value", x.value(0, 3), 0x0809);
        Due.due("its path", x.path(0, 3, 0), 1000 + 'b');
        Due.due("no field behind it", x.value(0, 4), Long.MIN_VALUE);
        Due.due("its bytes lie in no field", x.fieldAt(0, 9), NONE);
        // the bytes behind would suffice for a smaller field, but nothing comes behind the break
        layout("a smaller field behind", laid("a:u4;b:u1;.1;@9;c:{}*9;", 1, 2, 3), 0, 1, 0);
        Due.due("setField in a broken layout", x.setField(0, 3, 1), 4);
        Due.due("setField behind the break", x.setField(0, 4, 1), BAD);
    }

    /** "The reason is 0 if the layout is not broken.": a layout is "computed from the present bytes". */
    private static void brokenLayoutsHeal() {
        StructureEditor x = laid("n:u1;d:u1*n;", 2, 9);
        layout("one byte too few", x, 2, 1, 2);
        x.insert(2, 9, 1);
        layout("one byte more", x, 3, 0, 3);
        x.overwrite(0, 3);
        layout("one count more", x, 3, 1, 3);
        x.setField(0, 0, 0);
        layout("no count", x, 1, 0, 1);
        x.delete(0, 3);
        layout("no bytes", x, 0, 1, 0);
        x.undo();
        layout("undone", x, 1, 0, 1);
    }
}
