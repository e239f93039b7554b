/** The boundary cases of the text, of templates and of patterns: promises 2 to 9 and what the description says of them. */
public final class TextBoundsTest {
    private static final int BAD = -1001, STATE = -1002, FULL = -1003, NONE = -1009;
    private static final String NAMES = "abcdefghijklmnopqrstuvwxyz";
    private static final String DIGITS = "0123456789";
    private static final int[] NO_TEMPLATE = {-1, 4, Integer.MIN_VALUE, Integer.MAX_VALUE};

    private TextBoundsTest() {
    }

    public static void main(String[] args) {
        letters();
        fullText();
        clearedText();
        faultAtEachPlace();
        faultAtEachByte();
        textEndsTooEarly();
        faultsOfAFullText();
        blanks();
        numbers();
        names();
        sizes();
        nesting();
        itemsAtMost();
        firstByteOfThe25thItem();
        sameName();
        references();
        innermost();
        itselfAndAround();
        parentheses();
        secondBeforeFirst();
        alignmentOfZero();
        emptyTemplates();
        oneTextAfterAnother();
        templateNumbers();
        defineRefused();
        patternPairs();
        patternSigns();
        patternBlanks();
        findFrom();
        findAtTheEnds();
        matchesAtTheEnds();
        noPattern();
        Due.finish();
    }

    private static StructureEditor with(String text) {
        StructureEditor x = new StructureEditor();
        Due.text(x, text);
        return x;
    }

    /** "letter: the byte, 0 to 127", else BAD. */
    private static void letters() {
        Due.due("type(0)", new StructureEditor().type(0), 1);
        Due.due("type(127)", new StructureEditor().type(127), 1);
        int[] refused = {-1, 128, 255, 256, Integer.MIN_VALUE, Integer.MAX_VALUE};
        for (int letter : refused) {
            Refusal.refused("type(" + letter + ")", Refusal::rich, x -> x.type(letter), BAD);
        }
    }

    private static void typeFull(StructureEditor x) {
        Due.text(x, "a:u1;".repeat(24));
    }

    /** "There is a text of at most 120 bytes"; "FULL if the text has 120 bytes". */
    private static void fullText() {
        StructureEditor x = with("a:u1;".repeat(23) + "b:u1");
        Due.due("119 bytes", x.count(6), 119);
        Due.due("the 120th byte", x.type(';'), 120);
        Refusal.refused("the 121st byte", TextBoundsTest::typeFull, y -> y.type('a'), FULL);
        Refusal.refused("the 121st byte 0", TextBoundsTest::typeFull, y -> y.type(0), FULL);
        Refusal.refused("the 121st byte 127", TextBoundsTest::typeFull, y -> y.type(127), FULL);
        Refusal.refused("type(128) into a full text", TextBoundsTest::typeFull, y -> y.type(128), BAD);
        Refusal.refused("type(-1) into a full text", TextBoundsTest::typeFull, y -> y.type(-1), BAD);
        Due.due("clearText of a full text", x.clearText(), 120);
        Due.due("type after it", x.type('a'), 1);
    }

    /** "Empties the text. Returns the length that it had.": also of an empty one. */
    private static void clearedText() {
        StructureEditor x = new StructureEditor();
        Due.due("clearText of a new object", x.clearText(), 0);
        x.type(0);
        Due.due("clearText of one byte", x.clearText(), 1);
        Due.due("clearText again", x.clearText(), 0);
        Due.due("clearText is no change", x.count(2), 0);
        Due.due("the emptied text is a template", x.templateFault(), NONE);
    }

    /**
     * "The fault of a text is the index, from 0, of the first byte that cannot stand at its place": behind a
     * beginning, each of the 128 bytes that is not allowed there is the fault. Blanks are always allowed.
     */
    private static void next(String beginning, String allowed) {
        boolean isNested = beginning.indexOf('{') >= 0;
        boolean isWhole = !isNested && (beginning.isEmpty() || beginning.endsWith(";"));
        for (char letter = 0; letter < 128; letter++) {
            String text = beginning + letter;
            int want = beginning.length();
            if (letter == ' ') {
                want = isWhole ? NONE : text.length();
            } else if (allowed.indexOf(letter) >= 0) {
                want = letter == ';' && !isNested ? NONE : text.length();
            }
            Due.due("byte " + (int) letter + " behind '" + beginning + "'", with(text).templateFault(), want);
            if (want == beginning.length()) {
                firstOfTwo(text, want);
            }
        }
    }

    /** Whatever follows the first byte that cannot stand at its place, a second fault is not told. */
    private static void firstOfTwo(String text, int want) {
        for (String more : new String[] {";!", "!", ";b:u1;", "a:u1;)"}) {
            Due.due("the first fault of '" + text + more + "'", with(text + more).templateFault(), want);
        }
    }

    private static String without(String letters, String some) {
        return letters.replaceAll("[" + some + "]", "");
    }

    private static void faultAtEachPlace() {
        next("", NAMES + "?.@");
        next("a:u1;", without(NAMES, "a") + "?.@");
        next("a", ":");
        next("a:", "ui{xsc");
        next("a:u", "124");
        next("a:i", "124");
        next("a:u1", "<*;");
        next("a:i4<", "*;");
        next("a:u1*", DIGITS);
        next("n:u1;a:u1*", DIGITS + "n");
        next("n:u1;a:u1*n", ";");
        next("a:{", NAMES + "?.@}");
        next("a:{.1;", NAMES + "?.@}");
        next("a:{b:u1", "<*;");
        next("a:{b:u1;", without(NAMES, "b") + "?.@}");
        next("a:u1;?", "a");
        next("a:u1;?a", "=");
        next("a:u1;?a=", DIGITS);
        next("a:u1;?a=123", without(NAMES, "a") + ".@");
        next(".", DIGITS);
        next("@", without(DIGITS, "0"));
        for (String check : new String[] {"x", "s", "c"}) {
            next("a:u1;k:" + check, "(");
            next("a:u1;k:" + check + "(", "a");
            next("a:u1;k:" + check + "(a", ",");
            next("a:u1;k:" + check + "(a,", "a");
            next("a:u1;k:" + check + "(a,a", ")");
            next("a:u1;k:" + check + "(a,a)", ";");
        }
        structureEnds();
    }

    private static void structureEnds() {
        TextTest.fault("a:{}", 4);
        TextTest.fault("a:{};", NONE);
        TextTest.fault("a:{}*", 5);
        TextTest.fault("a:{}*1", 6);
        TextTest.fault("a:{}*1;", NONE);
        TextTest.fault("a:{}<", 4);
        TextTest.fault("a:{})", 4);
        TextTest.fault("a:{}}", 4);
        TextTest.fault("a:{}}*2;", 4);
        TextTest.fault("a:{}*a;", 5);
    }

    private static final String ALL_KINDS = "n:u1;?n=1s:{.2;@3;a:i2<*n;}*4;k:c(n,s);";

    /** Each byte of a text in which each token has one byte: in its place "!" is the first that cannot stand. */
    private static void faultAtEachByte() {
        TextTest.fault(ALL_KINDS, NONE);
        for (int i = 0; i < ALL_KINDS.length(); i++) {
            TextTest.fault(ALL_KINDS.substring(0, i) + "!" + ALL_KINDS.substring(i + 1), i);
        }
        TextTest.fault(ALL_KINDS + "!", ALL_KINDS.length());
        TextTest.fault("!" + ALL_KINDS, 0);
        TextTest.fault("!!", 0);
    }

    /** "or the length of the text if the text ends too early", blanks at its end included. */
    private static void textEndsTooEarly() {
        for (int n = 0; n <= ALL_KINDS.length(); n++) {
            String text = ALL_KINDS.substring(0, n);
            boolean isWhole = n == 0 || n == 5 || n == 30 || n == ALL_KINDS.length();
            TextTest.fault(text, isWhole ? NONE : n);
            TextTest.fault(text + "  ", isWhole ? NONE : n + 2);
        }
    }

    /** The last index that a fault can have, and the length of a full text. */
    private static void faultsOfAFullText() {
        String most = ".1;".repeat(23) + ".0 " + " ".repeat(47);
        TextTest.fault(most + ";", NONE);
        TextTest.fault(most + "!", 119);
        TextTest.fault(most + " ", 120);
        TextTest.patternFault(" ".repeat(118) + "0f", NONE);
        TextTest.patternFault(" ".repeat(118) + "0g", 119);
        TextTest.patternFault(" ".repeat(119) + "0", 120);
        TextTest.patternFault(" ".repeat(120), 120);
        TextTest.fault(" ".repeat(120), NONE);
    }

    /** "Blanks (byte 32) can stand before and after each token": no other byte is one. */
    private static void blanks() {
        for (int i = 0; i <= ALL_KINDS.length(); i++) {
            String before = ALL_KINDS.substring(0, i);
            String after = ALL_KINDS.substring(i);
            TextTest.fault(before + " " + after, NONE);
            TextTest.fault(before + "   " + after, NONE);
            for (char letter : new char[] {0, 9, 10, 13, 31, 33, 127}) {
                TextTest.fault(before + letter + after, i);
            }
        }
        StringBuilder wide = new StringBuilder(" ");
        for (char letter : ALL_KINDS.toCharArray()) {
            wide.append(letter).append(' ');
        }
        TextTest.fault(wide.toString(), NONE);
        // a blank ends a number, as a number is one token
        TextTest.fault(".1 2;", 3);
        TextTest.fault("a:u1*1 2;", 7);
        TextTest.fault("a:u1;?a=1 2.1;", 10);
    }

    /** "a number is the longest possible sequence of at most 3 digits". */
    private static void numbers() {
        String[] beginnings = {".", "@", "a:u1*", "a:{}*"};
        for (String beginning : beginnings) {
            int n = beginning.length();
            TextTest.fault(beginning + ";", n);
            TextTest.fault(beginning + "1;", NONE);
            TextTest.fault(beginning + "99;", NONE);
            TextTest.fault(beginning + "999;", NONE);
            TextTest.fault(beginning + "1000;", n + 3);
            TextTest.fault(beginning + "0010;", n + 3);
            TextTest.fault(beginning + "1234567;", n + 3);
            TextTest.fault(beginning + "/;", n);
            TextTest.fault(beginning + ":;", n);
            TextTest.fault(beginning + "-1;", n);
            TextTest.fault(beginning + "9", n + 1);
            TextTest.fault(beginning + "999", n + 3);
        }
        TextTest.fault("a:u1;?a=0.1;", NONE);
        TextTest.fault("a:u1;?a=999.1;", NONE);
        TextTest.fault("a:u1;?a=1000.1;", 11);
        TextTest.fault("a:u1;?a=/.1;", 8);
        TextTest.fault("a:u1;?a=:.1;", 8);
        numbersAreMeant();
    }

    /** All three digits of a number count, and no more than these. */
    private static void numbersAreMeant() {
        StructureEditor x = new StructureEditor();
        Due.define(x, 0, ".987;", 1);
        Due.define(x, 1, "@098;", 1);
        Due.define(x, 2, ".001;@098;", 2);
        x.lay(0, 0, 0);
        x.lay(1, 1, 0);
        x.lay(2, 2, 0);
        Due.due("end behind .987", x.overlay(0, 4), 987);
        Due.due("end behind @098 at the offset", x.overlay(1, 4), 0);
        Due.due("end behind .001 and @098", x.overlay(2, 4), 98);
    }

    /** "A name is a letter from a to z.": the bytes next to these, and capitals, are none. */
    private static void names() {
        String[][] places = {{"", ":u1;"}, {"n:u1;", ":u1*n;"}, {"n:u1;b:{", ":u1;};"}};
        for (String[] place : places) {
            for (char name : new char[] {'a', 'z'}) {
                TextTest.fault(place[0] + name + place[1], NONE);
            }
            for (char name : new char[] {'`', '{', 'A', 'Z'}) {
                TextTest.fault(place[0] + name + place[1], place[0].length());
            }
        }
        for (char name : new char[] {'a', 'z'}) {
            String first = name + ":u1;";
            TextTest.fault(first + "b:u1*" + name + ";", NONE);
            TextTest.fault(first + "?" + name + "=1b:u1;", NONE);
            TextTest.fault(first + "b:x(" + name + "," + name + ");", NONE);
        }
        for (char name : new char[] {'`', '{', 'A', 'Z'}) {
            TextTest.fault("a:u1;b:u1*" + name + ";", 10);
            TextTest.fault("a:u1;?" + name + "=1b:u1;", 6);
            TextTest.fault("a:u1;b:x(" + name + ",a);", 9);
            TextTest.fault("a:u1;b:x(a," + name + ");", 11);
        }
    }

    /** 'size = "1" | "2" | "4"', one sign each. */
    private static void sizes() {
        for (char size = '0'; size <= '9'; size++) {
            boolean isSize = size == '1' || size == '2' || size == '4';
            TextTest.fault("a:u" + size + ";", isSize ? NONE : 3);
            TextTest.fault("a:i" + size + "<;", isSize ? NONE : 3);
        }
        TextTest.fault("a:u01;", 3);
        TextTest.fault("a:u11;", 4);
        TextTest.fault("a:u42;", 4);
        TextTest.fault("a:u;", 3);
    }

    /** "Braces are nested at most 3 deep"; a fault "at a "{" that would be nested 4 deep". */
    private static void nesting() {
        TextTest.fault("a:{};", NONE);
        TextTest.fault("a:{b:{c:{};};};", NONE);
        TextTest.fault("a:{b:{c:{d:{", 11);
        TextTest.fault("a:{b:{c:{d: {};};};};", 12);
        TextTest.fault("a:{b:{c:{d:u1;e:{};};};};", 16);
        TextTest.fault("a:{b:{c:{};};};d:{e:{f:{};g:{};};h:{i:{};};};", NONE);
        TextTest.fault("a:{b:{c:{};};};d:{e:{f:{g:{};};};};", 26);
        // the name of the item nested 4 deep can still stand, and the fault of a sign is at its own place
        TextTest.fault("a:{b:{c:{d:", 11);
        TextTest.fault("a:{b:{c:{d:}", 11);
    }

    /** "a template has at most 24 items, nested ones included". */
    private static void itemsAtMost() {
        StructureEditor x = new StructureEditor();
        Due.define(x, 0, ".1;".repeat(24), 24);
        Due.define(x, 1, "a:{" + ".1;".repeat(23) + "};", 24);
        Due.define(x, 2, "a:{b:{c:{" + ".1;".repeat(21) + "};};};", 24);
        Due.define(x, 3, "a:{" + ".1;".repeat(11) + "};b:{" + ".1;".repeat(11) + "};", 24);
        for (int template = 0; template < 4; template++) {
            Due.due("items(" + template + ")", x.items(template), 24);
        }
        TextTest.fault(".1;".repeat(25), 72);
        TextTest.fault("a:{" + ".1;".repeat(24) + "};", 72);
        TextTest.fault("a:{b:{c:{" + ".1;".repeat(22) + "};};};", 72);
        TextTest.fault("a:{" + ".1;".repeat(11) + "};b:{" + ".1;".repeat(12) + "};", 74);
        TextTest.fault("a:{" + ".1;".repeat(23) + "};.1;", 74);
        // the 24th item may be nested 3 deep, and 4 deep it has its fault at the brace
        TextTest.fault(".1;".repeat(21) + "a:{b:{c:{};};};", NONE);
        TextTest.fault(".1;".repeat(20) + "a:{b:{c:{d:{};};};};", 71);
        TextTest.fault(".1;".repeat(21) + "a:{b:{c:{d:{};};};};", 72);
    }

    /** "at the first byte of a 25th item ("?", the name, "." or "@")". */
    private static void firstByteOfThe25thItem() {
        String most = "a:u1;" + ".1;".repeat(23);
        for (String item : new String[] {"?a=1.1;", "b:u1;", ".1;", "@1;", "a:u1;", "?z=1.1;", "@0;", "?", "b", ".", "@"}) {
            TextTest.fault(most + item, 74);
            TextTest.fault(most + "  " + item, 76);
        }
        TextTest.fault(most, NONE);
        TextTest.fault(most + "  ", NONE);
        TextTest.fault(most + "}", 74);
        // inside of braces the 25th item is refused, the closing brace is not
        String inside = "a:{" + ".1;".repeat(23);
        TextTest.fault(inside + "};", NONE);
        TextTest.fault(inside, 72);
        TextTest.fault(inside + "b:u1;};", 72);
        TextTest.fault(inside + "?", 72);
    }

    /** "at a name before ":" that an earlier item of the same block has". */
    private static void sameName() {
        for (String earlier : new String[] {"a:u1;", "a:i4<*2;", "a:{};", "b:u1;a:x(b,b);", "b:u1;?b=1a:u1;"}) {
            TextTest.fault(earlier + "a:u1;", earlier.length());
            TextTest.fault(earlier + "a:{};", earlier.length());
            TextTest.fault(earlier + "d:{a:u1;};", NONE);
            TextTest.fault("d:{" + earlier + "};a:u1;", NONE);
            TextTest.fault("d:{" + earlier + "};e:{a:u1;};", NONE);
            TextTest.fault("d:{" + earlier + "a:u1;};", 3 + earlier.length());
        }
        TextTest.fault("a:{a:u1;};", NONE);
        TextTest.fault("a:{a:u1;a:u1;};", 8);
        // items without a name are not in the way
        TextTest.fault(".1;.1;@1;@1;", NONE);
    }

    /** "at a name after "?", or of a count, that does not refer to an integer item without a count". */
    private static void references() {
        String[] right = {"a:u1;", "a:i4<;", "b:u1;?b=9a:u2;"};
        String[] wrong = {"", "b:u1;", "a:u1*1;", "a:i2<*3;", "a:{};", "a:{}*2;", "b:u1;a:x(b,b);", "b:u1;a:s(b,b);",
            "b:u1;a:c(b,b);", "b:{a:u1;};", "b:u1;a:u1*b;"};
        for (String before : right) {
            TextTest.fault(before + "?a=1.1;", NONE);
            TextTest.fault(before + "z:u1*a;", NONE);
            TextTest.fault(before + "z:{}*a;", NONE);
            TextTest.fault(before + "y:{z:u1*a;};", NONE);
        }
        for (String before : wrong) {
            int n = before.length();
            TextTest.fault(before + "?a=1.1;", n + 1);
            TextTest.fault(before + "z:u1*a;", n + 5);
            TextTest.fault(before + "z:{}*a;", n + 5);
            TextTest.fault(before + "y:{z:u1*a;};", n + 8);
            TextTest.fault(before + "?a=1.1;a:u1;", n + 1);
        }
    }

    /** "if there are several, to that of the innermost block, whatever kind it has". */
    private static void innermost() {
        TextTest.fault("a:u1*2;b:{a:u1;d:u1*a;};", NONE);
        TextTest.fault("a:u1*2;b:{a:u1;e:{d:u1*a;};};", NONE);
        TextTest.fault("a:u1;b:{a:u1*2;d:u1*a;};", 20);
        TextTest.fault("a:u1;b:{a:{};?a=1.1;};", 14);
        TextTest.fault("a:u1;b:{c:u1;a:x(c,c);d:u1*a;};", 27);
        TextTest.fault("a:u1;b:{a:{};e:{d:u1*a;};};", 21);
        TextTest.fault("a:u1;b:{e:{a:{};};d:u1*a;};", NONE);
    }

    /** "The item itself to which the condition or the count belongs does not stand before it, nor does a structure around it." */
    private static void itselfAndAround() {
        TextTest.fault("a:u1*a;", 5);
        TextTest.fault("?a=1a:u1;", 1);
        TextTest.fault("a:{}*a;", 5);
        TextTest.fault("a:{b:u1*a;};", 8);
        TextTest.fault("a:{?a=1.1;};", 4);
        TextTest.fault("a:{b:{c:u1*a;};};", 11);
        // so an outer item of that name is meant, if there is one
        TextTest.fault("a:u1;b:{a:u1*a;};", NONE);
        TextTest.fault("a:u1;b:{?a=1a:u1;};", NONE);
        TextTest.fault("a:u1;b:{a:{}*a;};", NONE);
        TextTest.fault("a:u1;b:{a:{c:u1*a;};};", NONE);
        TextTest.fault("a:u1;b:{a:{c:{?a=1.1;};};};", NONE);
        // what stands inside of a structure does not stand before its count
        TextTest.fault("b:{a:u1;}*a;", 10);
        TextTest.fault("a:u1;b:{a:{};}*a;", NONE);
    }

    /** "at a name in parentheses that is not that of an earlier item of the same block". */
    private static void parentheses() {
        for (String earlier : new String[] {"a:u1;", "a:u4<*3;", "a:{};", "a:{b:u1;}*2;", "z:u1;a:x(z,z);"}) {
            TextTest.fault(earlier + "k:s(a,a);", NONE);
            TextTest.fault(earlier + "k:s(b,a);", earlier.length() + 4);
            TextTest.fault(earlier + "k:s(a,b);", earlier.length() + 6);
            TextTest.fault(earlier + "k:s(k,a);", earlier.length() + 4);
            TextTest.fault(earlier + "k:s(a,k);", earlier.length() + 6);
            TextTest.fault(earlier + "k:s(l,a);l:u1;", earlier.length() + 4);
            TextTest.fault(earlier + "y:{k:s(a,a);};", earlier.length() + 7);
            TextTest.fault("y:{" + earlier + "};k:s(a,a);", earlier.length() + 9);
        }
        TextTest.fault("a:{k:x(a,a);};", 7);
    }

    /** "at the second name in parentheses if its item comes before that of the first name". */
    private static void secondBeforeFirst() {
        TextTest.fault("a:u1;b:u1;k:x(a,b);", NONE);
        TextTest.fault("a:u1;b:u1;k:x(b,b);", NONE);
        TextTest.fault("a:u1;b:u1;k:x(a,a);", NONE);
        TextTest.fault("a:u1;b:u1;k:x(b,a);", 16);
        TextTest.fault("a:u1;b:u1;k:x( b , a );", 19);
        TextTest.fault("a:u1;b:u1;k:x(b,a", 16);
        TextTest.fault("y:{b:u1;a:u1;};b:u1;a:u1;k:x(b,a);", NONE);
        TextTest.fault("y:{a:u1;b:u1;k:c(b,a);};", 19);
    }

    /** "at the number after "@" if it is 0". */
    private static void alignmentOfZero() {
        TextTest.fault("@1;", NONE);
        TextTest.fault("@999;", NONE);
        TextTest.fault("@0;", 1);
        TextTest.fault("@00;", 1);
        TextTest.fault("@000;", 1);
        TextTest.fault("@0000;", 1);
        TextTest.fault("@0010;", 4);
        TextTest.fault("@001;", NONE);
        TextTest.fault("@010;", NONE);
        TextTest.fault("@  0;", 3);
        TextTest.fault("@0", 1);
        TextTest.fault("a:u1;?a=0@0;", 10);
        // neither the number after "." nor that after "=" nor a count is refused
        TextTest.fault(".0;", NONE);
        TextTest.fault("a:u1;?a=0.0;b:u1*0;c:{}*000;", NONE);
    }

    /** "each is empty (a template without items) at first"; braces mean repetition, zero times or more. */
    private static void emptyTemplates() {
        StructureEditor x = new StructureEditor();
        for (int template = 0; template < 4; template++) {
            Due.due("items(" + template + ") of a new object", x.items(template), 0);
            Due.due("lay of an empty template", x.lay(template, template, 0), 0);
            Due.due("it is not broken", x.overlay(template, 3), 0);
        }
        StructureEditor y = new StructureEditor();
        Due.due("templateFault of an empty text", y.templateFault(), NONE);
        Due.define(y, 0, "a:u1;", 1);
        Due.define(y, 0, "", 0);
        Due.due("items(0) of an empty text", y.items(0), 0);
        Due.define(y, 0, "a:{};", 1);
        Due.define(y, 0, "   ", 0);
        Due.due("items(0) of blanks", y.items(0), 0);
    }

    private static final String[] TEXTS = {"", "a:u1;b:u2<;c:i4<*3;d:u1;", ".1;.2;@3;a:u1;", "a:{b:{c:{d:u2<*2;};};}*2;",
        "a:u1;b:x(a,a);c:s(a,b);d:c(b,c);", "e:{};f:{};g:c(e,f);h:u2;", "a:u1;?a=0b:u2<;?a=1c:u1;?b=0d:u1*a;",
        "a:u1*2;b:u1*0;c:{}*9;d:u1;", "a:u2<;b:u2;c:i1;d:i2<;e:i4;", "a:u1;a", "a:u1;b:u1*", "a:{b:{c:{d:u1<*2;",
        ".1;.1;a:x(b,b);"};

    /** A template is what its text says, whatever text was read before it, with a fault or without. */
    private static void oneTextAfterAnother() {
        for (String first : TEXTS) {
            for (String second : TEXTS) {
                StructureEditor fresh = new StructureEditor();
                StructureEditor used = new StructureEditor();
                for (int template = 0; template < 4; template++) {
                    Due.text(used, first);
                    used.templateFault();
                    used.define(template);
                    Due.text(used, first);
                    used.templateFault();
                    used.define(template);
                }
                for (int template = 0; template < 4; template++) {
                    Due.define(used, template, "", 0);
                }
                for (int template = 0; template < 4; template++) {
                    sameTemplate("'" + second + "' after '" + first + "'", used, fresh, template, second);
                }
            }
        }
    }

    private static void sameTemplate(String name, StructureEditor used, StructureEditor fresh, int template, String text) {
        Due.text(used, text);
        Due.text(fresh, text);
        int fault = fresh.templateFault();
        Due.due("fault of " + name, used.templateFault(), fault);
        Due.due("define of " + name, used.define(template), fresh.define(template));
        if (template == 0) {
            used.insert(0, 1, 30);
            fresh.insert(0, 1, 30);
        }
        Due.due("lay of " + name, used.lay(template, template, 0), fresh.lay(template, template, 0));
        Due.due("digest of " + name, used.digest(), fresh.digest());
    }

    /** "template: the template, 0 to 3", of define() and items(). */
    private static void templateNumbers() {
        StructureEditor x = new StructureEditor();
        Due.define(x, 0, "a:u1;", 1);
        Due.define(x, 3, "a:u1;b:{c:u1;};", 3);
        Due.due("items(0)", x.items(0), 1);
        Due.due("items(1)", x.items(1), 0);
        Due.due("items(3)", x.items(3), 3);
        for (int template : NO_TEMPLATE) {
            Refusal.refused("items(" + template + ")", Refusal::rich, y -> y.items(template), BAD);
            Refusal.refused("define(" + template + ")", TextBoundsTest::richWithTemplate, y -> y.define(template), BAD);
            Refusal.refused("define(" + template + ") of a fault", Refusal::rich, y -> y.define(template), BAD);
        }
    }

    private static void richWithTemplate(StructureEditor x) {
        Refusal.rich(x);
        Due.text(x, "z:u2;.3;");
    }

    /** "STATE if the text has a fault, or a present overlay uses this template (the text stays then)". */
    private static void defineRefused() {
        Refusal.refused("define(2) of a fault", Refusal::rich, x -> x.define(2), STATE);
        Refusal.refused("define(0) of a fault, in use", Refusal::rich, x -> x.define(0), STATE);
        Refusal.refused("define(0), in use", TextBoundsTest::richWithTemplate, x -> x.define(0), STATE);
        Refusal.refused("define(1), in use", TextBoundsTest::richWithTemplate, x -> x.define(1), STATE);
        StructureEditor x = new StructureEditor();
        richWithTemplate(x);
        long undone = x.count(2);
        Due.due("define(2), not in use", x.define(2), 2);
        Due.due("the text is empty then", x.count(6), 0);
        Due.due("define is no change", x.count(2), undone);
        Due.due("what can be redone stays", x.count(3), 2);
        // each overlay keeps its template from being defined, as long as it is present
        for (int overlay = 0; overlay < 4; overlay++) {
            StructureEditor y = new StructureEditor();
            y.lay(overlay, 3, 0);
            Due.text(y, "a:u1;");
            Due.due("define(3) under overlay " + overlay, y.define(3), STATE);
            Due.due("the text stays", y.count(6), 5);
            Due.due("lay of another template", y.lay(overlay, 2, 0), 0);
            Due.due("define(3) then", y.define(3), 1);
            Due.due("undo brings the overlay of template 3 back", y.undo(), 1);
            Due.due("define(3) then", y.define(3), STATE);
            Due.due("define(2) then", y.define(2), 0);
        }
    }

    /** "A pattern consists of 1 to 16 pairs"; "A 17th pair cannot stand at its place." */
    private static void patternPairs() {
        TextTest.patternFault("", 0);
        TextTest.patternFault("00", NONE);
        TextTest.patternFault("0f".repeat(15), NONE);
        TextTest.patternFault("0f".repeat(16), NONE);
        TextTest.patternFault("0f ".repeat(16), NONE);
        TextTest.patternFault("0f".repeat(17), 32);
        TextTest.patternFault("0f ".repeat(17), 48);
        TextTest.patternFault("0f".repeat(16) + "0", 32);
        TextTest.patternFault("0f".repeat(16) + "?", 32);
        TextTest.patternFault("0f".repeat(16) + "g", 32);
        TextTest.patternFault("0f".repeat(16) + "   ?0", 35);
        TextTest.patternFault("0f".repeat(15) + "0", 31);
        TextTest.patternFault("0f".repeat(15) + "0 ", 31);
    }

    /** "two signs, each of which is a hexadecimal digit (0 to 9, a to f) or "?"": each of the 128 bytes in each place. */
    private static void patternSigns() {
        String signs = "0123456789abcdef?";
        for (char letter = 0; letter < 128; letter++) {
            boolean isSign = signs.indexOf(letter) >= 0;
            TextTest.patternFault(letter + "0", isSign ? NONE : letter == ' ' ? 2 : 0);
            TextTest.patternFault("f" + letter, isSign ? NONE : 1);
            TextTest.patternFault("f?" + letter, isSign ? 3 : letter == ' ' ? NONE : 2);
        }
        byte255();
    }

    private static void byte255() {
        StructureEditor x = new StructureEditor();
        Due.bytes(x, 0, 9, 10, 15, 16, 144, 160, 240, 255);
        String[] texts = {"00", "09", "0a", "0f", "10", "90", "a0", "f0", "ff"};
        for (int i = 0; i < texts.length; i++) {
            Due.text(x, texts[i]);
            Due.due("find of " + texts[i], x.find(0), i);
            Due.due("matches of " + texts[i], x.matches(), 1);
        }
        Due.text(x, "??");
        Due.due("matches of ??", x.matches(), 9);
        Due.text(x, "?0");
        Due.due("matches of ?0", x.matches(), 5);
        Due.text(x, "0?");
        Due.due("matches of 0?", x.matches(), 4);
        Due.text(x, "f?");
        Due.due("matches of f?", x.matches(), 2);
        Due.text(x, "?f");
        Due.due("matches of ?f", x.matches(), 2);
    }

    /** "without a blank between them"; before and after a pair blanks can stand. */
    private static void patternBlanks() {
        TextTest.patternFault(" ", 1);
        TextTest.patternFault("0 0", 1);
        TextTest.patternFault("? ?", 1);
        TextTest.patternFault("00 0 0", 4);
        TextTest.patternFault("   00", NONE);
        TextTest.patternFault("00   ", NONE);
        TextTest.patternFault("00   00", NONE);
        TextTest.patternFault("00 0", 4);
        TextTest.patternFault("00\t00", 2);
    }

    /** 200 bytes: 1 to 199 and 0 at the end, so that each byte but the ends stands once. */
    private static StructureEditor fullBuffer() {
        StructureEditor x = new StructureEditor();
        for (int i = 0; i < 200; i++) {
            x.insert(i, (i + 1) % 200, 1);
        }
        Due.due("a full buffer", x.length(), 200);
        return x;
    }

    /** "from: the given position, 0 to 200", also behind the end of the buffer. */
    private static void findFrom() {
        StructureEditor x = fullBuffer();
        Due.text(x, "00");
        Due.due("find(0) of the last byte", x.find(0), 199);
        Due.due("find(199) of the last byte", x.find(199), 199);
        Due.due("find(200) of the last byte", x.find(200), NONE);
        for (int from : new int[] {-1, 201, Integer.MIN_VALUE, Integer.MAX_VALUE}) {
            Due.due("find(" + from + ")", x.find(from), BAD);
            Refusal.refused("find(" + from + ")", TextBoundsTest::richWithPattern, y -> y.find(from), BAD);
            Refusal.refused("find(" + from + ") of no pattern", Refusal::rich, y -> y.find(from), BAD);
        }
        StructureEditor y = new StructureEditor();
        Due.text(y, "??");
        Due.due("find(0) in an empty buffer", y.find(0), NONE);
        Due.due("find(200) in an empty buffer", y.find(200), NONE);
        Due.due("find(201) in an empty buffer", y.find(201), BAD);
        Due.due("the text stays", y.count(6), 2);
    }

    private static void richWithPattern(StructureEditor x) {
        Refusal.rich(x);
        Due.text(x, "0? 07");
    }

    /** "the least position, not less than a given one, from which on successive bytes match all pairs": none beyond the end. */
    private static void findAtTheEnds() {
        StructureEditor x = fullBuffer();
        Due.text(x, "b9 ?? ?? ?? ?? ?? ?? ?? ?? ?? ?? ?? ?? ?? ?? 00");
        Due.due("find(0) of 16 pairs at the end", x.find(0), 184);
        Due.due("find(184) of 16 pairs at the end", x.find(184), 184);
        Due.due("find(185) of 16 pairs at the end", x.find(185), NONE);
        Due.text(x, "?? ".repeat(16));
        Due.due("find(184) of any 16", x.find(184), 184);
        Due.due("find(185) of any 16", x.find(185), NONE);
        Due.due("matches of any 16", x.matches(), 185);
        Due.text(x, "c7 00");
        Due.due("find(198) of the last two", x.find(198), 198);
        Due.due("find(199) of the last two", x.find(199), NONE);
        Due.text(x, "00 01");
        Due.due("the end and the beginning are not successive", x.find(0), NONE);
        Due.text(x, "00 ??");
        Due.due("no byte stands behind the last one", x.find(0), NONE);
        StructureEditor y = new StructureEditor();
        Due.bytes(y, 1, 2);
        Due.text(y, "01 02 ??");
        Due.due("a pattern longer than the buffer", y.find(0), NONE);
        Due.due("matches of it", y.matches(), 0);
        Due.text(y, "01 02");
        Due.due("a pattern as long as the buffer", y.find(0), 0);
        Due.due("from 1 on", y.find(1), NONE);
        Due.due("matches of it", y.matches(), 1);
    }

    /** "Counts the positions at which the pattern of the text matches. Matches may overlap." */
    private static void matchesAtTheEnds() {
        StructureEditor x = new StructureEditor();
        Due.text(x, "??");
        Due.due("matches in an empty buffer", x.matches(), 0);
        x.insert(0, 5, 1);
        Due.due("matches in one byte", x.matches(), 1);
        x.insert(0, 5, 3);
        Due.text(x, "05 05");
        Due.due("matches that overlap", x.matches(), 3);
        StructureEditor y = fullBuffer();
        Due.text(y, "??");
        Due.due("matches in a full buffer", y.matches(), 200);
        Due.text(y, "?? ??");
        Due.due("matches of two in a full buffer", y.matches(), 199);
    }

    /** "STATE if the text is no pattern". */
    private static void noPattern() {
        for (String text : new String[] {"", " ", "0", "0 0", "0g", "00".repeat(17)}) {
            Refusal.Run before = x -> {
                Refusal.rich(x);
                Due.text(x, text);
            };
            Refusal.refused("find(0) of '" + text + "'", before, x -> x.find(0), STATE);
            Refusal.refused("find(200) of '" + text + "'", before, x -> x.find(200), STATE);
            Refusal.refused("find(201) of '" + text + "'", before, x -> x.find(201), BAD);
            Refusal.refused("find(-1) of '" + text + "'", before, x -> x.find(-1), BAD);
            Refusal.refused("matches() of '" + text + "'", before, x -> x.matches(), STATE);
        }
    }
}
