/** What the tests share: they count and print the calls whose answer is not the one that is due. */
final class Due {
    private static int wrong = 0;
    private static int asked = 0;

    private Due() {
    }

    static void due(String call, long got, long want) {
        asked++;
        if (got != want) {
            wrong++;
            System.out.println(call + " answered " + got + ", due is " + want);
        }
    }

    /** Types a text, which takes the place of the one that was there. */
    static void text(StructureEditor x, String text) {
        x.clearText();
        for (int i = 0; i < text.length(); i++) {
            due("type " + text.charAt(i) + " of " + text, x.type(text.charAt(i)), i + 1);
        }
    }

    static void define(StructureEditor x, int template, String text, int items) {
        text(x, text);
        due("define " + text, x.define(template), items);
    }

    /** Appends bytes to the buffer, a change each. */
    static void bytes(StructureEditor x, int... values) {
        for (int value : values) {
            int before = x.length();
            due("insert " + value, x.insert(before, value, 1), before + 1);
        }
    }

    static void buffer(String when, StructureEditor x, int... values) {
        due("length " + when, x.length(), values.length);
        for (int i = 0; i < values.length; i++) {
            due("byteAt " + i + " " + when, x.byteAt(i), values[i]);
        }
    }

    static void finish() {
        System.out.println(wrong == 0 ? asked + " answers are as due" : wrong + " of " + asked + " answers are not as due");
        if (wrong != 0) {
            System.exit(1);
        }
    }
}
