import java.util.ArrayList;
import java.util.List;
import java.util.Random;

/** Compares the class with the model, call by call, in random runs that are the same each time. */
public final class ModelTest {
    private static final int RUNS = 3000;
    /** An object is used for at most 512 calls; no step of a run takes more than so many. */
    private static final int MOST_CALLS = 512, MOST_OF_A_STEP = 130;
    private static final int TEXTS = 60000;

    private static final String[] TEMPLATES = {
        "n:u1;d:u1*n;k:x(n,d);", "a:u2;k:s(a,a);", "a:u1*4;k:c(a,a);", "s:{a:u1;k:x(a,a);}*7;",
        "n:i1;?n=1a:u2<;?n=2b:i2;@4;c:u4;", "n:u1;s:{m:u1;t:{a:u1;b:i2<;}*m;k:s(m,t);}*n;e:c(n,s);",
        "e:{};k:x(e,e);", "e:{};k:c(e,e);", "a:{.20;};k:c(a,a);l:s(a,k);m:x(a,l);", "s:{.1;}*n;",
        "n:u1;s:{?n=2.1;@3;a:u1;}*n;k:s(n,s);", "a:u1*60;b:u1;", "s:{}*398;a:u1;", "a:i4;b:{c:{d:{}*a;};};",
        "a:u1;s:{a:u1;b:u1*a;};c:u1*a;k:c(a,c);", "a:{b:{c:{d:u1;}*2;}*2;}*2;k:s(a,a);", ".1;a:u1;k:x(a,a);",
        "n:u1;?n=0a:{b:u1;};k:x(a,a);c:i1;", "", "a:u1;k:x(a,a);l:x(a,k);m:x(k,l);"
    };
    /** Arguments far out of range: no call may throw, for any of them. */
    private static final int[] WILD = {Integer.MIN_VALUE, Integer.MIN_VALUE + 1, -1000, -256, -2, 256, 1000, 65536,
        Integer.MAX_VALUE - 1, Integer.MAX_VALUE};
    private static final String LETTERS = "abcnuisxc124?:;.@{}*<=(), 05";
    private static final String DIGITS = "0123456789abcdef???? ";

    private final Random random;
    private final List<String> calls = new ArrayList<>();
    private StructureEditor x = new StructureEditor();
    private Model y = new Model();
    /** How many calls x has had. */
    private int used;

    private ModelTest(long seed) {
        random = new Random(seed);
    }

    public static void main(String[] args) {
        int runs = args.length > 0 ? Integer.parseInt(args[0]) : RUNS;
        int texts = args.length > 1 ? Integer.parseInt(args[1]) : TEXTS;
        boolean right = true;
        for (int seed = 0; seed < runs && right; seed++) {
            right = new ModelTest(seed).run();
        }
        right = right && new ModelTest(-1).faults(texts);
        System.out.println(right ? runs + " runs are as the model's" : "a run is not as the model's");
        if (!right) {
            System.exit(1);
        }
    }

    private boolean run() {
        boolean right = random.nextInt(10) == 0 || prepare();
        while (right && hasStepLeft()) {
            right = call();
        }
        right = right && same("digest()", x.digest(), y.digest());
        if (!right) {
            calls.forEach(System.out::println);
        }
        return right;
    }

    private boolean hasStepLeft() {
        return used + MOST_OF_A_STEP < MOST_CALLS;
    }

    /** Bytes, templates and overlays to begin with, as overlays with fields would be rare otherwise. */
    private boolean prepare() {
        boolean right = true;
        for (int n = 10 + random.nextInt(30); n > 0; n--) {
            right = right && changeBytes(0);
        }
        for (int n = 0; n < 4 && hasStepLeft(); n++) {
            right = right && define(n, random.nextInt(3) > 0 ? known() : wellGrown());
            right = right && lay(n, random.nextInt(4), random.nextInt(Math.min(y.length(), 12) + 1));
        }
        return right;
    }

    private boolean define(int template, String text) {
        type(text);
        return same("define(" + template + ")", x.define(template), y.define(template))
                && same("items(" + template + ")", x.items(template), y.items(template));
    }

    private boolean lay(int overlay, int template, int offset) {
        return same("lay(" + overlay + "," + template + "," + offset + ")", x.lay(overlay, template, offset),
                y.lay(overlay, template, offset));
    }

    private boolean same(String call, long got, long want) {
        used++;
        calls.add(call + " = " + got + (got == want ? "" : ", the model says " + want));
        return got == want;
    }

    /** Texts alone, and far more of them, as their faults have the most cases. */
    private boolean faults(int texts) {
        for (int n = 0; n < texts; n++) {
            if (!hasStepLeft()) {
                x = new StructureEditor();
                y = new Model();
                used = 0;
            }
            type(random.nextInt(5) == 0 ? pattern() : mutated(random.nextBoolean() ? grown() : known()));
            String text = y.text;
            if (!same("templateFault()", x.templateFault(), y.templateFault())
                    || !same("patternFault()", x.patternFault(), y.patternFault())) {
                System.out.println("'" + text + "' " + calls.get(calls.size() - 1));
                return false;
            }
            calls.clear();
        }
        return true;
    }

    private String known() {
        return TEMPLATES[random.nextInt(TEMPLATES.length)];
    }

    private void type(String text) {
        x.clearText();
        y.clearText();
        for (int i = 0; i < text.length() && i < 120; i++) {
            x.type(text.charAt(i));
            y.type(text.charAt(i));
        }
        used += 1 + Math.min(text.length(), 120);
        calls.add("text '" + text + "'");
    }

    private String mutated(String text) {
        StringBuilder result = new StringBuilder(text);
        for (int n = random.nextInt(3); n > 0; n--) {
            int at = random.nextInt(result.length() + 1);
            char letter = LETTERS.charAt(random.nextInt(LETTERS.length()));
            if (at < result.length() && random.nextBoolean()) {
                result.setCharAt(at, letter);
            } else if (at < result.length() && random.nextBoolean()) {
                result.deleteCharAt(at);
            } else {
                result.insert(at, letter);
            }
        }
        return result.toString();
    }

    private String pattern() {
        StringBuilder result = new StringBuilder();
        for (int n = random.nextInt(random.nextInt(4) == 0 ? 36 : 5); n >= 0; n--) {
            result.append(DIGITS.charAt(random.nextInt(DIGITS.length())));
        }
        return result.toString();
    }

    private String grown() {
        StringBuilder result = new StringBuilder();
        grow(result, 0);
        return result.substring(0, Math.min(120, result.length()));
    }

    private char name() {
        return (char) ('a' + random.nextInt(6));
    }

    private void grow(StringBuilder text, int depth) {
        for (int n = random.nextInt(6); n >= 0 && text.length() < 120; n--) {
            if (random.nextInt(4) == 0) {
                text.append('?').append(name()).append('=').append(random.nextInt(4));
            }
            int kind = random.nextInt(12);
            if (kind == 0) {
                text.append('.').append(random.nextInt(5));
            } else if (kind == 1) {
                text.append('@').append(random.nextInt(9));
            } else {
                text.append(name()).append(':');
                growType(text, kind, depth);
            }
            text.append(';').append(random.nextInt(4) == 0 ? " " : "");
        }
    }

    private void growType(StringBuilder text, int kind, int depth) {
        if (kind < 5 && depth < 4) {
            text.append("xsc".charAt(random.nextInt(3)));
            text.append('(').append(name()).append(',').append(name()).append(')');
            return;
        }
        if (kind < 8 && depth < 4) {
            text.append('{');
            grow(text, depth + 1);
            text.append('}');
        } else {
            text.append("ui".charAt(random.nextInt(2))).append("124".charAt(random.nextInt(3)));
            text.append(random.nextBoolean() ? "" : "<");
        }
        if (random.nextInt(3) == 0) {
            text.append('*').append(random.nextBoolean() ? String.valueOf(name()) : random.nextInt(4));
        }
    }

    private String wellGrown() {
        for (int n = 0; n < 50; n++) {
            String text = grown();
            Model model = new Model();
            model.text = text;
            if (model.templateFault() == Model.NONE) {
                return text;
            }
        }
        return known();
    }

    private int number(int most) {
        if (random.nextInt(80) == 0) {
            return WILD[random.nextInt(WILD.length)];
        }
        return random.nextInt(20) == 0 ? random.nextInt(3) - 1 + (random.nextBoolean() ? most : 0) : random.nextInt(most + 1);
    }

    private int value() {
        int kind = random.nextInt(10);
        return kind < 7 ? random.nextInt(4) : kind == 7 ? 255 - random.nextInt(2) : number(255);
    }

    private long fieldValue() {
        int kind = random.nextInt(8);
        if (kind < 4) {
            return random.nextInt(4);
        }
        return kind == 4 ? -random.nextInt(300) : kind == 5 ? random.nextInt(70000) : kind == 6
                ? random.nextInt() * 2L : random.nextLong();
    }

    private int at() {
        return number(Math.max(y.length(), 1));
    }

    private int o() {
        int o = number(3);
        for (int n = 0; n < 4 && !y.present(o); n++) {
            o = number(3);
        }
        return o;
    }

    /** An index of a field, most often of one that there is, and then often of a check. */
    private int i(int o) {
        int fields = y.present(o) ? y.overlay(o, 2) : 0;
        int i = fields == 0 || random.nextInt(12) == 0 ? number(60) : random.nextInt(fields);
        for (int n = random.nextInt(8); n > 0 && fields > 0 && y.expected(o, i) < 0; n--) {
            i = random.nextInt(fields);
        }
        return i;
    }

    private boolean call() {
        int kind = random.nextInt(44);
        if (kind < 12) {
            return changeBytes(kind);
        }
        if (kind < 24) {
            return changeMore(kind);
        }
        return kind < 34 ? askOverlays(kind) : askMore(kind);
    }

    private boolean changeBytes(int kind) {
        int at = at();
        int value = value();
        int n = random.nextInt(9) == 0 ? number(64) : number(3);
        switch (kind) {
            case 0:
            case 1:
            case 2:
                return same("insert(" + at + "," + value + "," + n + ")", x.insert(at, value, n), y.insert(at, value, n));
            case 3:
                return same("delete(" + at + "," + n + ")", x.delete(at, n), y.delete(at, n));
            case 4:
            case 5:
            case 6:
                return same("overwrite(" + at + "," + value + ")", x.overwrite(at, value), y.overwrite(at, value));
            case 7:
            case 8:
                int size = number(random.nextBoolean() ? 32 : 5);
                return same("copy(" + at + "," + size + ")", x.copy(at, size), y.copy(at, size));
            case 9:
                return same("paste(" + at + ")", x.paste(at), y.paste(at));
            case 10:
                return same("pasteOver(" + at + ")", x.pasteOver(at), y.pasteOver(at));
            default:
                return same("byteAt(" + at + ")", x.byteAt(at), y.byteAt(at))
                        && same("length()", x.length(), y.length());
        }
    }

    private boolean changeMore(int kind) {
        int o = kind == 16 ? number(3) : o();
        int t = number(3);
        int at = at();
        int i = i(o);
        switch (kind) {
            case 12:
            case 13:
                return define(t, random.nextInt(6) == 0 ? mutated(known()) : random.nextBoolean() ? known() : wellGrown());
            case 14:
            case 15:
                return lay(o, t, random.nextInt(3) == 0 ? at : random.nextInt(Math.min(y.length(), 12) + 1));
            case 16:
                return same("remove(" + o + ")", x.remove(o), y.remove(o));
            case 17:
            case 18:
                long value = fieldValue();
                return same("setField(" + o + "," + i + "," + value + ")", x.setField(o, i, value), y.setField(o, i, value));
            case 19:
                boolean on = random.nextInt(3) > 0;
                return same("follow(" + on + ")", x.follow(on), y.follow(on));
            case 20:
                return same("refresh()", x.refresh(), y.refresh());
            case 21:
            case 22:
                return same("undo()", x.undo(), y.undo());
            default:
                return same("redo()", x.redo(), y.redo());
        }
    }

    private boolean askOverlays(int kind) {
        int o = o();
        int i = i(o);
        int what = number(7);
        switch (kind) {
            case 24:
                return same("overlay(" + o + "," + what + ")", x.overlay(o, what), y.overlay(o, what));
            case 25:
                return same("field(" + o + "," + i + "," + what + ")", x.field(o, i, what), y.field(o, i, what));
            case 26:
                return same("value(" + o + "," + i + ")", x.value(o, i), y.value(o, i));
            case 27:
                int level = number(4);
                return same("path(" + o + "," + i + "," + level + ")", x.path(o, i, level), y.path(o, i, level));
            case 28:
                int at = at();
                return same("fieldAt(" + o + "," + at + ")", x.fieldAt(o, at), y.fieldAt(o, at));
            case 29:
            case 30:
                int other = o();
                return same("counterpart(" + o + "," + i + "," + other + ")", x.counterpart(o, i, other),
                        y.counterpart(o, i, other));
            case 31:
                return same("expected(" + o + "," + i + ")", x.expected(o, i), y.expected(o, i));
            default:
                return same("repair(" + o + "," + i + ")", x.repair(o, i), y.repair(o, i));
        }
    }

    private boolean askMore(int kind) {
        int from = random.nextInt(4) == 0 ? number(200) : at();
        int what = number(7);
        switch (kind) {
            case 34:
            case 35:
                type(pattern());
                return same("patternFault()", x.patternFault(), y.patternFault())
                        && same("find(" + from + ")", x.find(from), y.find(from)) && same("matches()", x.matches(), y.matches());
            case 36:
                int letter = number(127);
                return same("type(" + letter + ")", x.type(letter), y.type(letter));
            case 37:
                return same("mark()", x.mark(), y.mark());
            case 38:
                return same("difference(" + from + ")", x.difference(from), y.difference(from));
            case 39:
                return same("distance()", x.distance(), y.distance());
            case 40:
                return same("count(" + what + ")", x.count(what), y.count(what));
            case 41:
                type(random.nextBoolean() ? mutated(known()) : mutated(grown()));
                return same("templateFault()", x.templateFault(), y.templateFault());
            case 42:
                return random.nextInt(4) > 0 || same("clearText()", x.clearText(), y.clearText());
            default:
                return same("digest()", x.digest(), y.digest());
        }
    }
}
