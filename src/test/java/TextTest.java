/** Promises 2 to 9: the text, templates and patterns. */
public final class TextTest {
    private static final int BAD = -1001, STATE = -1002, FULL = -1003, NONE = -1009;

    private TextTest() {
    }

    public static void main(String[] args) {
        typing();
        clearing();
        grammarFaults();
        blanksAndNumbers();
        nameFaults();
        limitFaults();
        defining();
        patternFaults();
        finding();
        Due.finish();
    }

    private static void typing() {
        StructureEditor x = new StructureEditor();
        Due.due("type(-1)", x.type(-1), BAD);
        Due.due("type(128)", x.type(128), BAD);
        Due.due("type(0)", x.type(0), 1);
        Due.due("type(127)", x.type(127), 2);
        for (int i = 3; i <= 120; i++) {
            Due.due("type(32), the " + i + "th", x.type(32), i);
        }
        Due.due("type(32), the 121st", x.type(32), FULL);
        Due.due("type(128) with a full text", x.type(128), BAD);
        Due.due("count(6) of a full text", x.count(6), 120);
    }

    private static void clearing() {
        StructureEditor x = new StructureEditor();
        Due.due("clearText of an empty text", x.clearText(), 0);
        Due.text(x, "abc");
        Due.due("clearText", x.clearText(), 3);
        Due.due("count(6) after clearText", x.count(6), 0);
        Due.due("type after clearText", x.type(97), 1);
    }

    /** The fault of a text as a template; define() and its STATE must agree with it. */
    static void fault(String text, int want) {
        StructureEditor x = new StructureEditor();
        Due.text(x, text);
        Due.due("templateFault of '" + text + "'", x.templateFault(), want);
        Due.due("templateFault leaves '" + text + "'", x.count(6), text.length());
        int defined = x.define(2);
        Due.due("define says STATE of '" + text + "'", defined == STATE ? 1 : 0, want == NONE ? 0 : 1);
        Due.due("text after define of '" + text + "'", x.count(6), want == NONE ? 0 : text.length());
        Due.due("items after define of '" + text + "'", x.items(2), want == NONE ? defined : 0);
    }

    private static void grammarFaults() {
        fault("", NONE);
        fault("a:u1;", NONE);
        fault("a:u2<;b:i4<*3;", NONE);
        fault("A:u1;", 0);
        fault("a", 1);
        fault("a;", 1);
        fault("a:", 2);
        fault("a:v1;", 2);
        fault("a:u;", 3);
        fault("a:u3;", 3);
        fault("a:u12;", 4);
        fault("a:u1", 4);
        fault("a:u1<", 5);
        fault("a:u1<<;", 5);
        fault("a:u1*;", 5);
        fault("a:u1*<;", 5);
        fault("a:u1*", 5);
        fault("a:u1*2*3;", 6);
        fault("a:u1;;", 5);
        fault("}", 0);
        fault("a:{};", NONE);
        fault("a:{}*0;", NONE);
        fault("a:{", 3);
        fault("a:{b:u1;", 8);
        fault("a:{b:u1}", 7);
        fault("a:{b:u1;}", 9);
        fault("a:{;};", 3);
        fault("a:{}<;", 4);
        fault(".1;@1;", NONE);
        fault(".;", 1);
        fault(".a;", 1);
        fault("@;", 1);
        fault(".5", 2);
        fault("a:u1;?a=1.2;", NONE);
        fault("a:u1;?a=1@2;", NONE);
        fault("a:u1;?a=1?a=1@2;", 9);
        fault("a:u1;?a=;", 8);
        fault("a:u1;?a1;", 7);
        fault("a:u1;?;", 6);
        fault("a:u1;?a=1;", 9);
        fault("a:u1;?a=1", 9);
        fault("a:u1;b:x(a,a);c:s(a,b);d:c(c,c);", NONE);
        fault("a:u1;b:x;", 8);
        fault("a:u1;b:x(;", 9);
        fault("a:u1;b:x(a;", 10);
        fault("a:u1;b:x(a);", 10);
        fault("a:u1;b:x(a,;", 11);
        fault("a:u1;b:x(a,a;", 12);
        fault("a:u1;b:x(a,a)*2;", 13);
        fault("a:u1;b:x1(a,a);", 8);
    }

    private static void blanksAndNumbers() {
        fault("   ", NONE);
        fault(" a : u 1 < * 2 ; ", NONE);
        fault("n:u1; ? n = 7 s : { . 3 ; @ 4 ; } * n ; k : c ( n , s ) ; ", NONE);
        fault("a   ", 4);
        fault("a\t:u1;", 1);
        fault(".123;", NONE);
        fault(".1234;", 4);
        fault(".12 3;", 4);
        fault(".000;", NONE);
        fault("@000;", 1);
        fault("@ 0 ;", 2);
        fault("@0", 1);
        fault("@", 1);
        fault("@001;", NONE);
        fault("@0001;", 1);
        fault("@999;", NONE);
        fault("a:u1*999;", NONE);
        fault("a:u1*1000;", 8);
        fault("a:u1*0;", NONE);
    }

    private static void nameFaults() {
        fault("a:u1;a:u1;", 5);
        fault("a:u1;a", 5);
        fault("a:u1;?a=1a:u1;", 9);
        fault("a:u1;b:{a:u1;};", NONE);
        fault("a:{a:{a:{a:u1;};};};", NONE);
        fault("b:{a:u1;};a:u1;", NONE);
        fault("a:u1;b:u1*a;", NONE);
        fault("b:u1*a;a:u1;", 5);
        fault("a:u1*a;", 5);
        fault("?a=1a:u1;", 1);
        fault("a:u1*2;b:u1*a;", 12);
        fault("a:u1*1;?a=1.1;", 8);
        fault("a:{};b:u1*a;", 10);
        fault("a:u1;b:x(a,a);d:u1*b;", 19);
        fault("a:u1;?a=1b:u1;d:u1*b;", NONE);
        fault("a:u1;b:{d:{e:u1*a;};};", NONE);
        fault("b:{a:u1;};d:u1*a;", 15);
        fault("b:{a:u1;}*a;", 10);
        fault("a:u1;b:{a:u1;}*a;", NONE);
        // the innermost item of the name counts, whatever kind it has
        fault("a:u1;b:{a:{};d:u1*a;};", 18);
        fault("a:u1;b:{a:u1*2;d:u1*a;};", 20);
        fault("a:u1;b:{d:u1*a;a:{};};", NONE);
        // neither the item itself nor a structure around it stands before
        fault("a:u1;b:{a:u1*a;};", NONE);
        fault("a:u1;b:{a:{d:u1*a;};};", NONE);
        fault("a:{d:u1*a;};", 8);
        fault("a:u1;b:{?a=1a:u1;};", NONE);
        // parentheses take any earlier item of the same block
        fault("a:u1;b:u1*2;d:{};e:x(a,d);f:x(b,b);", NONE);
        fault("b:x(b,b);", 4);
        fault("b:x(a,a);", 4);
        fault("a:u1;b:{d:x(a,a);};", 12);
        fault("b:{a:u1;};d:x(a,a);", 14);
        fault("a:u1;d:u1;b:x(d,a);", 16);
        fault("a:u1;d:u1;b:x(d,d);", NONE);
        fault("a:u1;b:x(a,b);", 11);
        fault("a:u1;b:x(A,a);", 9);
    }

    private static void limitFaults() {
        fault("a:{b:{c:{d:u1;};};};", NONE);
        fault("a:{b:{c:{d:{};};};};", 11);
        fault("a:{b:{c:{};d:{};};e:{f:{};};};", NONE);
        String most = ".1;".repeat(24);
        fault(most, NONE);
        fault(most + " ", NONE);
        fault(most + ".", 72);
        fault(most + " @1;", 73);
        fault(most + "?", 72);
        fault(most + "a", 72);
        fault(".1;".repeat(22) + "a:{.1;};", NONE);
        fault(".1;".repeat(22) + "a:{.1;.1;};", 72);
        fault(".1;".repeat(22) + "a:{.1;};b:u1;", 74);
    }

    private static void defining() {
        StructureEditor x = new StructureEditor();
        Due.define(x, 3, "n:u1;s:{a:u1;b:u2;}*n;.1;", 5);
        Due.due("items(3)", x.items(3), 5);
        Due.due("items(0)", x.items(0), 0);
        Due.due("items(-1)", x.items(-1), BAD);
        Due.due("items(4)", x.items(4), BAD);
        Due.due("count(2): define is no change", x.count(2), 0);
        Due.due("lay(1,3,0)", x.lay(1, 3, 0), 0);
        Due.text(x, "a:u1;");
        Due.due("define(-1)", x.define(-1), BAD);
        Due.due("define(4)", x.define(4), BAD);
        Due.due("define of a template in use", x.define(3), STATE);
        Due.due("the text stays", x.count(6), 5);
        Due.due("items(3) stays", x.items(3), 5);
        Due.due("define of another template", x.define(0), 1);
        Due.due("the text is empty", x.count(6), 0);
        Due.due("remove(1)", x.remove(1), 0);
        Due.define(x, 3, "", 0);
        Due.text(x, "a:");
        Due.due("define(4) of a faulty text", x.define(4), BAD);
        Due.due("define(3) of a faulty text", x.define(3), STATE);
    }

    static void patternFault(String text, int want) {
        StructureEditor x = new StructureEditor();
        Due.text(x, text);
        Due.due("patternFault of '" + text + "'", x.patternFault(), want);
        Due.due("find with '" + text + "'", x.find(0), want == NONE ? NONE : STATE);
        Due.due("matches with '" + text + "'", x.matches(), want == NONE ? 0 : STATE);
        Due.due("the text '" + text + "' stays", x.count(6), text.length());
    }

    private static void patternFaults() {
        patternFault("", 0);
        patternFault("  ", 2);
        patternFault("0", 1);
        patternFault("0 ", 1);
        patternFault("0 0", 1);
        patternFault("0g", 1);
        patternFault("g0", 0);
        patternFault("A0", 0);
        patternFault("0F", 1);
        patternFault("09af??", NONE);
        patternFault("  09  af  ?? ", NONE);
        patternFault("09a", 3);
        patternFault("09 .", 3);
        patternFault("00".repeat(16), NONE);
        patternFault("00".repeat(16) + " ", NONE);
        patternFault("00".repeat(17), 32);
        patternFault("00".repeat(16) + "  0", 34);
        patternFault("00".repeat(16) + "x", 32);
    }

    private static void finding() {
        StructureEditor x = new StructureEditor();
        Due.bytes(x, 0x12, 0x34, 0x12, 0x34, 0x15, 0xff);
        Due.text(x, "1?");
        Due.due("find(0) 1?", x.find(0), 0);
        Due.due("find(1) 1?", x.find(1), 2);
        Due.due("find(3) 1?", x.find(3), 4);
        Due.due("find(5) 1?", x.find(5), NONE);
        Due.due("find(6) 1?", x.find(6), NONE);
        Due.due("find(200) 1?", x.find(200), NONE);
        Due.due("find(201) 1?", x.find(201), BAD);
        Due.due("find(-1) 1?", x.find(-1), BAD);
        Due.due("matches 1?", x.matches(), 3);
        Due.text(x, "?4 1?");
        Due.due("find(0) ?41?", x.find(0), 1);
        Due.due("find(2) ?41?", x.find(2), 3);
        Due.due("matches ?41?", x.matches(), 2);
        Due.text(x, "?? ?? ??");
        Due.due("find(3) of three", x.find(3), 3);
        Due.due("find(4) of three", x.find(4), NONE);
        Due.due("matches overlap", x.matches(), 4);
        Due.text(x, "ff");
        Due.due("find ff", x.find(0), 5);
        Due.text(x, "f");
        Due.due("find(201) of no pattern", x.find(201), BAD);
        Due.due("find(0) of no pattern", x.find(0), STATE);
    }
}
