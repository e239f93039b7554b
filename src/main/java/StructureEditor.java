/**
 * A hex editor with structure templates: a buffer of bytes, templates that describe structures,
 * and overlays that lay templates over the buffer.
 */
public final class StructureEditor {
    public static final int BAD = -1001, STATE = -1002, FULL = -1003, RANGE = -1004, UNSTABLE = -1005;
    public static final int NONE = -1009;

    private static final int MAX_BYTES = 200;
    private static final int MAX_INSERTED = 64;
    private static final int MAX_CLIPBOARD = 32;
    private static final int MAX_TEXT = 120;
    private static final int MAX_LETTER = 127;
    private static final int MAX_BYTE = 255;
    private static final int TEMPLATES = 4;
    private static final int OVERLAYS = 4;
    private static final int MAX_ROUNDS = 8;
    private static final int MAX_REPAIRED = 16;

    /** The properties of an overlay, a field and the editor are numbered from 0 to these. */
    private static final int LAST_OVERLAY_PROPERTY = 5;
    private static final int LAST_FIELD_PROPERTY = 6;
    private static final int LAST_NUMBER = 7;

    private final ByteRow text;
    private final ByteRow clipboard;
    private final ByteRow marked;
    private final Document document;
    private final History history;
    private final Template[] templates;
    private final TemplateParser parser;
    private final Pattern pattern;
    private final Layout layout;
    private final int[] distances;
    /** What the parser fills; define() exchanges it for the template that it replaces. */
    private Template draft;
    private boolean following;

    public StructureEditor() {
        text = new ByteRow(MAX_TEXT);
        clipboard = new ByteRow(MAX_CLIPBOARD);
        marked = new ByteRow(MAX_BYTES);
        document = new Document();
        history = new History(document);
        templates = new Template[TEMPLATES];
        for (int i = 0; i < TEMPLATES; i++) {
            templates[i] = new Template();
        }
        draft = new Template();
        parser = new TemplateParser(text, draft);
        pattern = new Pattern();
        layout = new Layout(draft, document.buffer);
        distances = new int[MAX_BYTES + 1];
        following = false;
    }

    // ---- text, templates, patterns

    public int type(int letter) {
        if (!isWithin(letter, 0, MAX_LETTER)) {
            return BAD;
        }
        return text.append(letter) ? text.size : FULL;
    }

    public int clearText() {
        int had = text.size;
        text.size = 0;
        return had;
    }

    public int templateFault() {
        return parser.faultOf(draft);
    }

    public int define(int template) {
        if (!isWithin(template, 0, TEMPLATES - 1)) {
            return BAD;
        }
        if (document.uses(template) || parser.faultOf(draft) != NONE) {
            return STATE;
        }
        Template replaced = templates[template];
        templates[template] = draft;
        draft = replaced;
        text.size = 0;
        return templates[template].used;
    }

    public int items(int template) {
        return isWithin(template, 0, TEMPLATES - 1) ? templates[template].used : BAD;
    }

    public int patternFault() {
        return pattern.faultOf(text);
    }

    public int find(int from) {
        if (!isWithin(from, 0, MAX_BYTES)) {
            return BAD;
        }
        if (pattern.faultOf(text) != NONE) {
            return STATE;
        }
        for (int at = from; at < document.buffer.size; at++) {
            if (pattern.fits(document.buffer, at)) {
                return at;
            }
        }
        return NONE;
    }

    public int matches() {
        if (pattern.faultOf(text) != NONE) {
            return STATE;
        }
        int found = 0;
        for (int at = 0; at < document.buffer.size; at++) {
            if (pattern.fits(document.buffer, at)) {
                found++;
            }
        }
        return found;
    }

    // ---- buffer

    public int length() {
        return document.buffer.size;
    }

    public int byteAt(int at) {
        return document.buffer.has(at) ? document.buffer.get(at) : BAD;
    }

    public int insert(int at, int value, int n) {
        ByteRow buffer = document.buffer;
        if (!isWithin(at, 0, buffer.size) || !isWithin(value, 0, MAX_BYTE) || !isWithin(n, 1, MAX_INSERTED)) {
            return BAD;
        }
        if (n > MAX_BYTES - buffer.size) {
            return FULL;
        }
        history.keep();
        document.openGap(at, n);
        for (int i = 0; i < n; i++) {
            buffer.put(at + i, value);
        }
        return endChange(following) == UNSTABLE ? UNSTABLE : buffer.size;
    }

    public int delete(int at, int n) {
        ByteRow buffer = document.buffer;
        if (!buffer.has(at) || !isWithin(n, 1, buffer.size - at)) {
            return BAD;
        }
        history.keep();
        document.closeGap(at, n);
        return endChange(following) == UNSTABLE ? UNSTABLE : buffer.size;
    }

    public int overwrite(int at, int value) {
        ByteRow buffer = document.buffer;
        if (!buffer.has(at) || !isWithin(value, 0, MAX_BYTE)) {
            return BAD;
        }
        int previous = buffer.get(at);
        history.keep();
        buffer.put(at, value);
        return endChange(following) == UNSTABLE ? UNSTABLE : previous;
    }

    public int copy(int at, int n) {
        ByteRow buffer = document.buffer;
        if (!isWithin(at, 0, buffer.size) || !isWithin(n, 0, Math.min(MAX_CLIPBOARD, buffer.size - at))) {
            return BAD;
        }
        clipboard.become(buffer, at, n);
        return n;
    }

    public int paste(int at) {
        ByteRow buffer = document.buffer;
        if (!isWithin(at, 0, buffer.size)) {
            return BAD;
        }
        if (clipboard.size == 0) {
            return STATE;
        }
        if (clipboard.size > MAX_BYTES - buffer.size) {
            return FULL;
        }
        history.keep();
        document.openGap(at, clipboard.size);
        buffer.putAll(at, clipboard);
        return endChange(following) == UNSTABLE ? UNSTABLE : buffer.size;
    }

    public int pasteOver(int at) {
        ByteRow buffer = document.buffer;
        if (!isWithin(at, 0, buffer.size)) {
            return BAD;
        }
        if (clipboard.size == 0) {
            return STATE;
        }
        if (clipboard.size > buffer.size - at) {
            return FULL;
        }
        history.keep();
        buffer.putAll(at, clipboard);
        return endChange(following) == UNSTABLE ? UNSTABLE : clipboard.size;
    }

    // ---- overlays

    public int lay(int overlay, int template, int offset) {
        if (!isWithin(overlay, 0, OVERLAYS - 1) || !isWithin(template, 0, TEMPLATES - 1)
                || !isWithin(offset, 0, document.buffer.size)) {
            return BAD;
        }
        history.keep();
        document.templateOf[overlay] = template;
        document.offsetOf[overlay] = offset;
        return endChange(following) == UNSTABLE ? UNSTABLE : fieldsOf(overlay);
    }

    public int remove(int overlay) {
        if (!document.isPresent(overlay)) {
            return BAD;
        }
        int offset = document.offsetOf[overlay];
        history.keep();
        document.drop(overlay);
        return endChange(following) == UNSTABLE ? UNSTABLE : offset;
    }

    public int overlay(int overlay, int what) {
        if (!isWithin(what, 0, LAST_OVERLAY_PROPERTY) || !layOut(overlay)) {
            return BAD;
        }
        return overlayProperty(overlay, what);
    }

    public int field(int overlay, int i, int what) {
        if (!isWithin(what, 0, LAST_FIELD_PROPERTY) || !layOutField(overlay, i)) {
            return BAD;
        }
        return layout.fields[i].property(what);
    }

    public long value(int overlay, int i) {
        return layOutField(overlay, i) ? document.buffer.read(layout.fields[i]) : Long.MIN_VALUE;
    }

    public int path(int overlay, int i, int level) {
        if (!layOutField(overlay, i)) {
            return BAD;
        }
        return layout.fields[i].pathName(level);
    }

    public int fieldAt(int overlay, int at) {
        if (!document.buffer.has(at) || !layOut(overlay)) {
            return BAD;
        }
        for (int i = 0; i < layout.used; i++) {
            if (layout.fields[i].contains(at)) {
                return i;
            }
        }
        return NONE;
    }

    public int counterpart(int overlay, int i, int other) {
        if (!document.isPresent(other) || !layOutField(overlay, i)) {
            return BAD;
        }
        layout.seek(i);
        layOut(other);
        return layout.firstSought();
    }

    public int setField(int overlay, int i, long value) {
        if (!layOutField(overlay, i)) {
            return BAD;
        }
        Field field = layout.fields[i];
        if (!field.takes(value)) {
            return RANGE;
        }
        history.keep();
        document.buffer.write(field, value);
        return endChange(following) == UNSTABLE ? UNSTABLE : fieldsOf(overlay);
    }

    // ---- checks

    public int follow(boolean on) {
        int before = following ? 1 : 0;
        following = on;
        return before;
    }

    public int refresh() {
        history.keep();
        return endChange(true);
    }

    public int expected(int overlay, int i) {
        if (!layOutField(overlay, i)) {
            return BAD;
        }
        Field field = layout.fields[i];
        return field.isCheck() ? Checks.expectedOf(field, document.buffer) : NONE;
    }

    public int repair(int overlay, int i) {
        if (!layOutField(overlay, i)) {
            return BAD;
        }
        Field field = layout.fields[i];
        if (!Checks.isWrong(field, document.buffer)) {
            return STATE;
        }
        return Checks.repairOf(field, document.buffer, MAX_REPAIRED);
    }

    // ---- history, comparison

    public int undo() {
        return history.back() ? history.now : STATE;
    }

    public int redo() {
        return history.forward() ? history.last - history.now : STATE;
    }

    public int mark() {
        marked.become(document.buffer, 0, document.buffer.size);
        return marked.size;
    }

    public int difference(int from) {
        if (!isWithin(from, 0, MAX_BYTES)) {
            return BAD;
        }
        int end = Math.max(document.buffer.size, marked.size);
        for (int at = from; at < end; at++) {
            if (document.buffer.get(at) != marked.get(at)) {
                return at;
            }
        }
        return NONE;
    }

    public int distance() {
        int width = Math.min(document.buffer.size, distances.length - 1);
        for (int column = 0; column <= width; column++) {
            distances[column] = column;
        }
        for (int row = 1; row <= marked.size; row++) {
            nextDistances(row, width);
        }
        return distances[width];
    }

    public int count(int what) {
        return isWithin(what, 0, LAST_NUMBER) ? numberOf(what) : BAD;
    }

    public long digest() {
        ByteRow buffer = document.buffer;
        long h = mix(11, buffer.size);
        for (int at = 0; at < buffer.size; at++) {
            h = mix(h, buffer.get(at));
        }
        for (int overlay = 0; overlay < OVERLAYS; overlay++) {
            h = layOut(overlay) ? mixOverlay(h, overlay) : mix(h, -1);
        }
        for (int template = 0; template < TEMPLATES; template++) {
            h = mix(h, templates[template].used);
        }
        for (int what = 0; what <= LAST_NUMBER; what++) {
            h = mix(h, numberOf(what));
        }
        return h;
    }

    // ---- what the public methods share

    private static boolean isWithin(int number, int least, int greatest) {
        return number >= least && number <= greatest;
    }

    /**
     * Ends a change before which the history has kept the state. Returns the number of rounds that
     * changed a byte; UNSTABLE if the change was taken back.
     */
    private int endChange(boolean updating) {
        int rounds = 0;
        while (updating && rounds < MAX_ROUNDS && updateRound()) {
            rounds++;
        }
        if (rounds == MAX_ROUNDS) {
            history.takeBack();
            return UNSTABLE;
        }
        history.commit();
        return rounds;
    }

    private boolean updateRound() {
        boolean changed = false;
        for (int overlay = 0; overlay < OVERLAYS; overlay++) {
            if (layOut(overlay) && updateWrongFields()) {
                changed = true;
            }
        }
        return changed;
    }

    private boolean updateWrongFields() {
        boolean changed = false;
        for (int i = 0; i < layout.used; i++) {
            Field field = layout.fields[i];
            if (Checks.isWrong(field, document.buffer)) {
                document.buffer.write(field, Checks.expectedOf(field, document.buffer));
                changed = true;
            }
        }
        return changed;
    }

    /** Computes the layout of an overlay. Returns whether the overlay is present. */
    private boolean layOut(int overlay) {
        if (!document.isPresent(overlay)) {
            return false;
        }
        int template = document.templateOf[overlay];
        if (!isWithin(template, 0, TEMPLATES - 1)) {
            return false;
        }
        layout.compute(templates[template], document.offsetOf[overlay]);
        return true;
    }

    private boolean layOutField(int overlay, int i) {
        return layOut(overlay) && i >= 0 && i < layout.used;
    }

    private int fieldsOf(int overlay) {
        return layOut(overlay) ? layout.used : 0;
    }

    /** Of an overlay whose layout has just been computed. */
    private int overlayProperty(int overlay, int what) {
        switch (what) {
            case 0:
                return document.templateOf[overlay];
            case 1:
                return document.offsetOf[overlay];
            case 2:
                return layout.used;
            case 3:
                return layout.reason;
            case 4:
                return layout.position;
            default:
                return wrongFields();
        }
    }

    private int wrongFields() {
        int wrong = 0;
        for (int i = 0; i < layout.used; i++) {
            if (Checks.isWrong(layout.fields[i], document.buffer)) {
                wrong++;
            }
        }
        return wrong;
    }

    private int wrongFieldsOfAll() {
        int wrong = 0;
        for (int overlay = 0; overlay < OVERLAYS; overlay++) {
            if (layOut(overlay)) {
                wrong += wrongFields();
            }
        }
        return wrong;
    }

    private int numberOf(int what) {
        switch (what) {
            case 0:
                return document.presentOverlays();
            case 1:
                return wrongFieldsOfAll();
            case 2:
                return history.now;
            case 3:
                return history.last - history.now;
            case 4:
                return clipboard.size;
            case 5:
                return marked.size;
            case 6:
                return text.size;
            default:
                return following ? 1 : 0;
        }
    }

    /** Turns the distances of the first row - 1 bytes of the mark into those of the first row bytes. */
    private void nextDistances(int row, int width) {
        int diagonal = row - 1;
        int left = row;
        distances[0] = row;
        for (int column = 1; column <= width; column++) {
            int above = distances[column];
            boolean same = marked.get(row - 1) == document.buffer.get(column - 1);
            int replaced = same ? diagonal : diagonal + 1;
            left = Math.min(replaced, Math.min(above, left) + 1);
            distances[column] = left;
            diagonal = above;
        }
    }

    private static long mix(long h, long number) {
        return 31 * h + number;
    }

    private long mixOverlay(long start, int overlay) {
        long h = start;
        for (int what = 0; what <= LAST_OVERLAY_PROPERTY; what++) {
            h = mix(h, overlayProperty(overlay, what));
        }
        for (int i = 0; i < layout.used; i++) {
            h = mixField(h, layout.fields[i]);
        }
        return h;
    }

    private long mixField(long start, Field field) {
        long h = start;
        for (int what = 0; what <= LAST_FIELD_PROPERTY; what++) {
            h = mix(h, field.property(what));
        }
        h = mix(h, document.buffer.read(field));
        for (int level = 0; level < field.names; level++) {
            h = mix(h, field.pathName(level));
        }
        return h;
    }

    /** A row of bytes of a limited length. */
    private static final class ByteRow {
        static final int NO_BYTE = -1;

        final int[] bytes;
        int size;

        ByteRow(int capacity) {
            bytes = new int[Math.max(capacity, 0)];
            size = 0;
        }

        boolean has(int at) {
            return at >= 0 && at < size;
        }

        int get(int at) {
            return at >= 0 && at < size ? bytes[at] : NO_BYTE;
        }

        void put(int at, int number) {
            if (at >= 0 && at < size) {
                bytes[at] = number;
            }
        }

        void putAll(int at, ByteRow source) {
            for (int i = 0; i < source.size; i++) {
                put(at + i, source.get(i));
            }
        }

        boolean append(int number) {
            if (size >= bytes.length) {
                return false;
            }
            bytes[size] = number;
            size++;
            return true;
        }

        /** Makes this row a copy of n bytes of another one. */
        void become(ByteRow source, int at, int n) {
            if (at < 0 || n < 0 || n > source.size - at || n > bytes.length) {
                return;
            }
            System.arraycopy(source.bytes, at, bytes, 0, n);
            size = n;
        }

        void openGap(int at, int n) {
            if (at < 0 || at > size || n < 0 || n > bytes.length - size) {
                return;
            }
            System.arraycopy(bytes, at, bytes, at + n, size - at);
            size += n;
        }

        void closeGap(int at, int n) {
            if (at < 0 || at > size || n < 0 || n > size - at) {
                return;
            }
            System.arraycopy(bytes, at + n, bytes, at, size - at - n);
            size -= n;
        }

        long read(Field field) {
            if (field.start < 0 || field.size > size - field.start) {
                return 0;
            }
            long number = 0;
            for (int i = 0; i < field.size; i++) {
                int place = field.isLittle ? field.size - 1 - i : i;
                number = 256 * number + bytes[field.start + place];
            }
            long span = 1L << (8 * field.size);
            return field.kind == Item.SIGNED && number >= span / 2 ? number - span : number;
        }

        void write(Field field, long number) {
            for (int i = 0; i < field.size; i++) {
                int place = field.isLittle ? i : field.size - 1 - i;
                put(field.start + place, (int) ((number >> (8 * i)) & MAX_BYTE));
            }
        }
    }

    /** The state that changes change: the buffer and the overlays. */
    private static final class Document {
        private static final int ABSENT = -1;

        final ByteRow buffer;
        final int[] templateOf;
        final int[] offsetOf;

        Document() {
            buffer = new ByteRow(MAX_BYTES);
            templateOf = new int[OVERLAYS];
            offsetOf = new int[OVERLAYS];
            for (int overlay = 0; overlay < OVERLAYS; overlay++) {
                templateOf[overlay] = ABSENT;
            }
        }

        boolean isPresent(int overlay) {
            return overlay >= 0 && overlay < OVERLAYS && templateOf[overlay] != ABSENT;
        }

        void drop(int overlay) {
            if (isPresent(overlay)) {
                templateOf[overlay] = ABSENT;
                offsetOf[overlay] = 0;
            }
        }

        int presentOverlays() {
            int present = 0;
            for (int overlay = 0; overlay < OVERLAYS; overlay++) {
                if (isPresent(overlay)) {
                    present++;
                }
            }
            return present;
        }

        boolean uses(int template) {
            for (int overlay = 0; overlay < OVERLAYS; overlay++) {
                if (isPresent(overlay) && templateOf[overlay] == template) {
                    return true;
                }
            }
            return false;
        }

        void become(Document other) {
            buffer.become(other.buffer, 0, other.buffer.size);
            for (int overlay = 0; overlay < OVERLAYS; overlay++) {
                templateOf[overlay] = other.templateOf[overlay];
                offsetOf[overlay] = other.offsetOf[overlay];
            }
        }

        void openGap(int at, int n) {
            buffer.openGap(at, n);
            for (int overlay = 0; overlay < OVERLAYS; overlay++) {
                if (offsetOf[overlay] > at) {
                    offsetOf[overlay] += n;
                }
            }
        }

        void closeGap(int at, int n) {
            buffer.closeGap(at, n);
            for (int overlay = 0; overlay < OVERLAYS; overlay++) {
                if (offsetOf[overlay] > at) {
                    offsetOf[overlay] = Math.max(at, offsetOf[overlay] - n);
                }
            }
        }
    }

    /**
     * The states before and after the live one, in one row: those before now can be restored by
     * undoing, those after it, up to last, by redoing. The place of now itself is free for the state
     * before a change that may yet be taken back.
     */
    private static final class History {
        private static final int MAX_STATES = 12;

        private final Document live;
        private final Document[] states;
        int now;
        int last;

        History(Document document) {
            live = document;
            states = new Document[MAX_STATES + 1];
            for (int i = 0; i <= MAX_STATES; i++) {
                states[i] = new Document();
            }
            now = 0;
            last = 0;
        }

        void keep() {
            states[now].become(live);
        }

        void takeBack() {
            live.become(states[now]);
        }

        void commit() {
            if (now < MAX_STATES) {
                now++;
            } else {
                dropOldest();
            }
            last = now;
        }

        boolean back() {
            if (now <= 0) {
                return false;
            }
            keep();
            now--;
            takeBack();
            return true;
        }

        boolean forward() {
            if (now >= last) {
                return false;
            }
            keep();
            now++;
            takeBack();
            return true;
        }

        private void dropOldest() {
            Document oldest = states[0];
            for (int i = 0; i < MAX_STATES; i++) {
                states[i] = states[i + 1];
            }
            states[MAX_STATES] = oldest;
        }
    }

    /** An item of a template. */
    private static final class Item {
        /** The kinds of items; those that lay fields are numbered as the kinds of fields are. */
        static final int UNSIGNED = 0, SIGNED = 1, XOR = 2, SUM = 3, CRC = 4;
        static final int STRUCTURE = 5, SKIP = 6, ALIGN = 7;
        /** In place of an item's index, and of the name of an item without one. */
        static final int NOTHING = -1;

        int kind;
        int name;
        int size;
        boolean isLittle;
        /** The structure around it, and the index behind it and all that is nested in it. */
        int parent;
        int end;
        /** The item on whose value it depends whether this one is absent, and the value that is due. */
        int condition;
        int conditionValue;
        boolean isCounted;
        /** The item whose value is the count; with NOTHING here the count is the number. */
        int counter;
        /** The count, or how far "." and "@" go. */
        int number;
        int rangeFirst;
        int rangeLast;

        void reset(int parentIndex) {
            kind = SKIP;
            name = NOTHING;
            size = 0;
            isLittle = false;
            parent = parentIndex;
            condition = NOTHING;
            conditionValue = 0;
            isCounted = false;
            counter = NOTHING;
            number = 0;
            rangeFirst = NOTHING;
            rangeLast = NOTHING;
        }

        boolean isPlainInteger() {
            return (kind == UNSIGNED || kind == SIGNED) && !isCounted;
        }
    }

    /** The items of a template, each before those that are nested in it. */
    private static final class Template {
        static final int MAX_ITEMS = 24;
        static final int MAX_NESTING = 3;

        final Item[] items;
        int used;

        Template() {
            items = new Item[MAX_ITEMS];
            for (int i = 0; i < MAX_ITEMS; i++) {
                items[i] = new Item();
            }
            used = 0;
        }

        /** Returns the new item's index, or NOTHING if there is no room for one more. */
        int append(int parent) {
            if (used >= MAX_ITEMS) {
                return Item.NOTHING;
            }
            items[used].reset(parent);
            used++;
            items[used - 1].end = used;
            return used - 1;
        }

        /** Finds the item with a name that stands before a given one in the same block. */
        int sibling(int index, int name) {
            if (index < 0 || index >= used) {
                return Item.NOTHING;
            }
            for (int i = index - 1; i >= 0; i--) {
                if (items[i].parent == items[index].parent && items[i].name == name) {
                    return i;
                }
            }
            return Item.NOTHING;
        }

        /** Finds the item with a name that stands before a given one, in the innermost block. */
        int lookUp(int index, int name) {
            if (index < 0 || index >= used) {
                return Item.NOTHING;
            }
            int block = items[index].parent;
            for (int i = index - 1; i >= 0; i--) {
                if (i == block) {
                    block = items[i].parent;
                } else if (items[i].parent == block && items[i].name == name) {
                    return i;
                }
            }
            return Item.NOTHING;
        }
    }

    /** Reads the text as a template. Each parsing method returns false if it has met the fault. */
    private static final class TemplateParser {
        private static final int BLANK = 32;
        private static final int MAX_DIGITS = 3;
        private static final int REFUSED = -1;

        private final ByteRow text;
        private Template template;
        /** The index and the byte of the token that is due; NO_BYTE at the end of the text. */
        private int at;
        private int sign;
        private int fault;

        TemplateParser(ByteRow source, Template target) {
            text = source;
            template = target;
            at = 0;
            sign = ByteRow.NO_BYTE;
            fault = NONE;
        }

        /** Fills a template from the text. Returns the fault of the text, or NONE. */
        int faultOf(Template target) {
            template = target;
            template.used = 0;
            fault = NONE;
            moveTo(0);
            parseBlock(Item.NOTHING, 0);
            return fault;
        }

        private void moveTo(int index) {
            at = Math.max(index, 0);
            while (at < text.size && text.bytes[at] == BLANK) {
                at++;
            }
            sign = at < text.size ? text.bytes[at] : ByteRow.NO_BYTE;
        }

        private boolean refuse(int index) {
            fault = index;
            return false;
        }

        private boolean parseSign(int due) {
            if (sign != due) {
                return refuse(at);
            }
            moveTo(at + 1);
            return true;
        }

        private boolean parseBlock(int parent, int depth) {
            int closing = depth == 0 ? ByteRow.NO_BYTE : '}';
            for (int n = 0; n <= Template.MAX_ITEMS; n++) {
                if (sign == closing) {
                    return true;
                }
                if (!parseItem(parent, depth)) {
                    return false;
                }
            }
            return refuse(at);
        }

        private boolean parseItem(int parent, int depth) {
            int index = template.append(parent);
            if (index == Item.NOTHING) {
                return refuse(at);
            }
            if (sign == '?' && !parseCondition(index)) {
                return false;
            }
            boolean stands;
            if (sign == '.' || sign == '@') {
                stands = parseGap(template.items[index]);
            } else {
                stands = parseName(index) && parseType(index, depth);
            }
            if (!stands || !parseSign(';')) {
                return false;
            }
            template.items[index].end = template.used;
            return true;
        }

        private boolean parseCondition(int index) {
            moveTo(at + 1);
            int condition = parseReference(index);
            if (condition == Item.NOTHING || !parseSign('=')) {
                return false;
            }
            int number = parseNumber();
            template.items[index].condition = condition;
            template.items[index].conditionValue = number;
            return number != REFUSED;
        }

        private boolean parseGap(Item item) {
            item.kind = sign == '@' ? Item.ALIGN : Item.SKIP;
            moveTo(at + 1);
            int start = at;
            item.number = parseNumber();
            if (item.number == 0 && item.kind == Item.ALIGN) {
                return refuse(start);
            }
            return item.number != REFUSED;
        }

        private boolean parseName(int index) {
            if (!isName(sign) || template.sibling(index, sign) != Item.NOTHING) {
                return refuse(at);
            }
            template.items[index].name = sign;
            moveTo(at + 1);
            return parseSign(':');
        }

        private boolean parseType(int index, int depth) {
            Item item = template.items[index];
            switch (sign) {
                case 'u':
                case 'i':
                    return parseInteger(item) && parseCount(index);
                case '{':
                    return parseStructure(index, depth) && parseCount(index);
                case 'x':
                    return parseCheck(index, Item.XOR, 1);
                case 's':
                    return parseCheck(index, Item.SUM, 2);
                case 'c':
                    return parseCheck(index, Item.CRC, 2);
                default:
                    return refuse(at);
            }
        }

        private boolean parseInteger(Item item) {
            item.kind = sign == 'i' ? Item.SIGNED : Item.UNSIGNED;
            moveTo(at + 1);
            if (sign != '1' && sign != '2' && sign != '4') {
                return refuse(at);
            }
            item.size = sign - '0';
            moveTo(at + 1);
            item.isLittle = sign == '<';
            if (item.isLittle) {
                moveTo(at + 1);
            }
            return true;
        }

        private boolean parseStructure(int index, int depth) {
            if (depth >= Template.MAX_NESTING) {
                return refuse(at);
            }
            template.items[index].kind = Item.STRUCTURE;
            moveTo(at + 1);
            return parseBlock(index, depth + 1) && parseSign('}');
        }

        private boolean parseCheck(int index, int kind, int size) {
            Item item = template.items[index];
            item.kind = kind;
            item.size = size;
            moveTo(at + 1);
            if (!parseSign('(')) {
                return false;
            }
            item.rangeFirst = parseSibling(index, 0);
            if (item.rangeFirst == Item.NOTHING || !parseSign(',')) {
                return false;
            }
            item.rangeLast = parseSibling(index, item.rangeFirst);
            return item.rangeLast != Item.NOTHING && parseSign(')');
        }

        /** Returns the earlier item of the same block that is named, or NOTHING at the fault. */
        private int parseSibling(int index, int least) {
            int found = isName(sign) ? template.sibling(index, sign) : Item.NOTHING;
            if (found < least) {
                refuse(at);
                return Item.NOTHING;
            }
            moveTo(at + 1);
            return found;
        }

        private boolean parseCount(int index) {
            Item item = template.items[index];
            if (sign != '*') {
                return true;
            }
            moveTo(at + 1);
            if (isName(sign)) {
                item.counter = parseReference(index);
                item.isCounted = true;
                return item.counter != Item.NOTHING;
            }
            item.number = parseNumber();
            item.isCounted = true;
            return item.number != REFUSED;
        }

        /** Returns the integer item to which a name refers, or NOTHING at the fault. */
        private int parseReference(int index) {
            int found = isName(sign) ? template.lookUp(index, sign) : Item.NOTHING;
            if (found == Item.NOTHING || !template.items[found].isPlainInteger()) {
                refuse(at);
                return Item.NOTHING;
            }
            moveTo(at + 1);
            return found;
        }

        private int parseNumber() {
            if (!isDigit(sign)) {
                refuse(at);
                return REFUSED;
            }
            int number = 0;
            int end = at;
            for (int n = 0; n < MAX_DIGITS && isDigit(text.get(end)); n++) {
                number = 10 * number + text.get(end) - '0';
                end++;
            }
            moveTo(end);
            return number;
        }

        private static boolean isName(int letter) {
            return letter >= 'a' && letter <= 'z';
        }

        private static boolean isDigit(int letter) {
            return letter >= '0' && letter <= '9';
        }
    }

    /** A pattern of hexadecimal digits for successive bytes. */
    private static final class Pattern {
        private static final int MAX_PAIRS = 16;
        private static final int BLANK = 32;
        private static final int ANY = 16;
        private static final int NO_DIGIT = -1;

        private final int[] high;
        private final int[] low;
        private int pairs;

        Pattern() {
            high = new int[MAX_PAIRS];
            low = new int[MAX_PAIRS];
            pairs = 0;
        }

        /** Reads the pattern from a text. Returns the fault of the text, or NONE. */
        int faultOf(ByteRow text) {
            pairs = 0;
            int at = 0;
            while (at < text.size) {
                if (text.get(at) == BLANK) {
                    at++;
                    continue;
                }
                int first = digitOf(text.get(at));
                int second = digitOf(text.get(at + 1));
                if (pairs >= MAX_PAIRS || first == NO_DIGIT) {
                    return at;
                }
                if (second == NO_DIGIT) {
                    return at + 1;
                }
                high[pairs] = first;
                low[pairs] = second;
                pairs++;
                at += 2;
            }
            return pairs == 0 ? text.size : NONE;
        }

        boolean fits(ByteRow row, int at) {
            if (at < 0 || pairs > row.size - at) {
                return false;
            }
            for (int i = 0; i < pairs; i++) {
                int number = row.get(at + i);
                if (!fitsDigit(high[i], number / 16) || !fitsDigit(low[i], number % 16)) {
                    return false;
                }
            }
            return true;
        }

        private static boolean fitsDigit(int digit, int number) {
            return digit == ANY || digit == number;
        }

        private static int digitOf(int letter) {
            if (letter >= '0' && letter <= '9') {
                return letter - '0';
            }
            if (letter >= 'a' && letter <= 'f') {
                return letter - 'a' + 10;
            }
            return letter == '?' ? ANY : NO_DIGIT;
        }
    }

    /** A field of a layout. */
    private static final class Field {
        int start;
        int size;
        int kind;
        boolean isLittle;
        /** NONE unless it is a check field. */
        int rangeStart;
        int rangeEnd;
        int names;
        /** Each name as path() returns it, with the index of its repetition. */
        final int[] path;

        Field() {
            path = new int[Template.MAX_NESTING + 1];
        }

        boolean isCheck() {
            return kind >= Item.XOR;
        }

        boolean contains(int at) {
            return at >= start && at < start + size;
        }

        boolean takes(long number) {
            long span = 1L << (8 * size);
            long least = kind == Item.SIGNED ? -span / 2 : 0;
            return number >= least && number < least + span;
        }

        int pathName(int level) {
            return level >= 0 && level < names && level < path.length ? path[level] : NONE;
        }

        int property(int what) {
            switch (what) {
                case 0:
                    return start;
                case 1:
                    return size;
                case 2:
                    return kind;
                case 3:
                    return isLittle ? 1 : 0;
                case 4:
                    return rangeStart;
                case 5:
                    return rangeEnd;
                default:
                    return names;
            }
        }
    }

    /** The layout of an overlay, as it was computed latest. */
    private static final class Layout {
        private static final int MAX_FIELDS = 60;
        private static final int MAX_STEPS = 400;
        private static final int MAX_COUNT = 999;
        private static final int WHOLE = 0, BEYOND_BUFFER = 1, TOO_MANY_FIELDS = 2, TOO_MANY_STEPS = 3;

        final Field[] fields;
        int used;
        int reason;
        int position;
        private final ByteRow buffer;
        private Template template;
        private int offset;
        private int steps;
        /** The names and indexes of the structures that are gone through, from the outside in. */
        private final int[] path;
        /** Of each item, as it was gone through latest. */
        private final long[] itemValue;
        private final int[] itemStart;
        private final int[] itemEnd;
        /** A path that is kept while another overlay's layout is computed. */
        private final int[] soughtPath;
        private int soughtNames;

        Layout(Template first, ByteRow row) {
            fields = new Field[MAX_FIELDS];
            for (int i = 0; i < MAX_FIELDS; i++) {
                fields[i] = new Field();
            }
            buffer = row;
            template = first;
            path = new int[Template.MAX_NESTING + 1];
            itemValue = new long[Template.MAX_ITEMS];
            itemStart = new int[Template.MAX_ITEMS];
            itemEnd = new int[Template.MAX_ITEMS];
            soughtPath = new int[Template.MAX_NESTING + 1];
        }

        void compute(Template laid, int start) {
            template = laid;
            offset = start;
            position = start;
            used = 0;
            steps = 0;
            reason = WHOLE;
            for (int i = 0; i < laid.used && reason == WHOLE; i = Math.max(i + 1, laid.items[i].end)) {
                goThrough(i, 0);
            }
        }

        private boolean makeStep() {
            if (steps >= MAX_STEPS) {
                reason = TOO_MANY_STEPS;
                return false;
            }
            steps++;
            return true;
        }

        private void goThrough(int i, int depth) {
            if (depth >= path.length || !makeStep()) {
                return;
            }
            Item item = template.items[i];
            itemStart[i] = position;
            itemEnd[i] = position;
            itemValue[i] = 0;
            if (item.condition != Item.NOTHING && itemValue[item.condition] != item.conditionValue) {
                return;
            }
            if (item.kind == Item.STRUCTURE) {
                repeatStructure(i, depth);
            } else if (item.kind == Item.SKIP) {
                position += item.number;
            } else if (item.kind == Item.ALIGN) {
                align(item.number);
            } else {
                layFields(i, depth);
            }
            itemEnd[i] = position;
        }

        private void repeatStructure(int i, int depth) {
            Item item = template.items[i];
            int repetitions = repetitionsOf(item);
            for (int n = 0; n < repetitions && makeStep(); n++) {
                path[depth] = 1000 * n + item.name;
                for (int k = i + 1; k < item.end && reason == WHOLE; k = Math.max(k + 1, template.items[k].end)) {
                    goThrough(k, depth + 1);
                }
                if (reason != WHOLE) {
                    return;
                }
            }
        }

        private int repetitionsOf(Item item) {
            if (!item.isCounted) {
                return 1;
            }
            if (item.counter == Item.NOTHING) {
                return item.number;
            }
            return (int) Math.max(0, Math.min(MAX_COUNT, itemValue[item.counter]));
        }

        private void align(int multiple) {
            int beyond = multiple > 0 ? (position - offset) % multiple : 0;
            if (beyond > 0) {
                position += multiple - beyond;
            }
        }

        private void layFields(int i, int depth) {
            Item item = template.items[i];
            int repetitions = repetitionsOf(item);
            for (int n = 0; n < repetitions && reason == WHOLE; n++) {
                path[depth] = 1000 * n + item.name;
                layField(item, depth);
            }
            if (item.isPlainInteger() && reason == WHOLE && used > 0) {
                itemValue[i] = buffer.read(fields[used - 1]);
            }
        }

        private void layField(Item item, int depth) {
            if (used >= MAX_FIELDS) {
                reason = TOO_MANY_FIELDS;
                return;
            }
            if (item.size > buffer.size - position) {
                reason = BEYOND_BUFFER;
                return;
            }
            Field field = fields[used];
            field.start = position;
            field.size = item.size;
            field.kind = item.kind;
            field.isLittle = item.isLittle;
            field.rangeStart = item.rangeFirst == Item.NOTHING ? NONE : itemStart[item.rangeFirst];
            field.rangeEnd = item.rangeLast == Item.NOTHING ? NONE : itemEnd[item.rangeLast];
            field.names = depth + 1;
            System.arraycopy(path, 0, field.path, 0, depth + 1);
            used++;
            position += item.size;
        }

        void seek(int i) {
            if (i < 0 || i >= used) {
                return;
            }
            soughtNames = fields[i].names;
            System.arraycopy(fields[i].path, 0, soughtPath, 0, soughtPath.length);
        }

        /** Returns the first field with the path that is sought, or NONE. */
        int firstSought() {
            for (int i = 0; i < used; i++) {
                if (isSought(fields[i])) {
                    return i;
                }
            }
            return NONE;
        }

        private boolean isSought(Field field) {
            if (field.names != soughtNames) {
                return false;
            }
            for (int level = 0; level < soughtNames; level++) {
                if (field.path[level] != soughtPath[level]) {
                    return false;
                }
            }
            return true;
        }
    }

    /** What the checks are computed by. */
    private static final class Checks {
        private static final int MODULUS = 65536;
        private static final int CRC_START = 65535;
        private static final int CRC_TOP = 32768;
        private static final int CRC_XOR = 4129;

        static int expectedOf(Field field, ByteRow row) {
            int result = field.kind == Item.CRC ? CRC_START : 0;
            for (int at = field.rangeStart; at < field.rangeEnd; at++) {
                int number = Math.max(row.get(at), 0);
                if (field.kind == Item.XOR) {
                    result ^= number;
                } else if (field.kind == Item.SUM) {
                    result = (result + number) % MODULUS;
                } else {
                    result = feed(result, number);
                }
            }
            return result;
        }

        static boolean isWrong(Field field, ByteRow row) {
            return field.isCheck() && row.read(field) != expectedOf(field, row);
        }

        /** Returns 256 * position + value for a wrong check field, or NONE. */
        static int repairOf(Field field, ByteRow row, int most) {
            int end = Math.min(field.rangeEnd, field.rangeStart + most);
            if (field.kind == Item.CRC) {
                return repairOfCrc(field, row, end);
            }
            int present = (int) row.read(field);
            int expected = expectedOf(field, row);
            for (int at = field.rangeStart; at < end; at++) {
                int number = row.get(at);
                int needed = field.kind == Item.XOR
                        ? number ^ expected ^ present
                        : Math.floorMod(number + present - expected, MODULUS);
                if (needed <= MAX_BYTE) {
                    return 256 * at + needed;
                }
            }
            return NONE;
        }

        /**
         * A byte changes the register in a way that can be undone. So at each position there is one
         * register that leads on to the present value, and at most one byte that leads to it.
         */
        private static int repairOfCrc(Field field, ByteRow row, int end) {
            int before = CRC_START;
            int needed = (int) row.read(field);
            for (int at = field.rangeEnd - 1; at > field.rangeStart; at--) {
                needed = halve(needed) ^ (256 * row.get(at));
            }
            for (int at = field.rangeStart; at < end; at++) {
                int difference = halve(needed) ^ before;
                if (difference % 256 == 0) {
                    return 256 * at + difference / 256;
                }
                before = feed(before, row.get(at));
                needed = feed(needed, Math.max(row.get(at + 1), 0));
            }
            return NONE;
        }

        private static int feed(int register, int number) {
            int result = register ^ (256 * number);
            for (int i = 0; i < 8; i++) {
                int doubled = 2 * result % MODULUS;
                result = result >= CRC_TOP ? doubled ^ CRC_XOR : doubled;
            }
            return result;
        }

        /** Undoes the eight doublings: only a changed register is odd after one, as 4129 is odd. */
        private static int halve(int register) {
            int result = register;
            for (int i = 0; i < 8; i++) {
                result = result % 2 == 0 ? result / 2 : (result ^ CRC_XOR) / 2 + CRC_TOP;
            }
            return result;
        }
    }
}
