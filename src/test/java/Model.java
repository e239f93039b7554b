import java.util.ArrayList;
import java.util.HashMap;
import java.util.List;
import java.util.Map;

/**
 * A second reading of the document, written as slowly and plainly as it can be, to compare the class with.
 * It shares no code and no data structure with it.
 */
final class Model {
    static final int BAD = -1001, STATE = -1002, FULL = -1003, RANGE = -1004, UNSTABLE = -1005, NONE = -1009;

    /** An item as it was read; a block is a list of them, with the item around it. */
    static final class Node {
        String what = "";
        int name;
        int size;
        boolean little;
        Node condition;
        int conditionNumber;
        boolean counted;
        Node counter;
        int number;
        Node first;
        Node second;
        List<Node> inside = new ArrayList<>();
    }

    static final class Block {
        final List<Node> before = new ArrayList<>();
        final Block around;

        Block(Block around) {
            this.around = around;
        }

        Node named(int name) {
            for (Node node : before) {
                if (node.name == name) {
                    return node;
                }
            }
            return null;
        }

        Node meant(int name) {
            Node here = named(name);
            return here != null ? here : around == null ? null : around.meant(name);
        }
    }

    static final class Fault extends RuntimeException {
        private static final long serialVersionUID = 1L;
        final int at;

        Fault(int at) {
            this.at = at;
        }
    }

    /** Reads a text by the grammar; throws at the fault. */
    static final class Reader {
        final String text;
        int at = 0;
        int items = 0;

        Reader(String text) {
            this.text = text;
        }

        List<Node> template() {
            List<Node> nodes = block(new Block(null), 0);
            if (at < text.length()) {
                throw new Fault(at);
            }
            return nodes;
        }

        int next() {
            while (at < text.length() && text.charAt(at) == ' ') {
                at++;
            }
            return at < text.length() ? text.charAt(at) : -1;
        }

        int take(String allowed) {
            int next = next();
            if (next < 0 || allowed.indexOf(next) < 0) {
                throw new Fault(at);
            }
            at++;
            return next;
        }

        int name() {
            return take("abcdefghijklmnopqrstuvwxyz");
        }

        int number() {
            StringBuilder digits = new StringBuilder();
            digits.append((char) take("0123456789"));
            while (digits.length() < 3 && at < text.length() && Character.isDigit(text.charAt(at))) {
                digits.append(text.charAt(at++));
            }
            return Integer.parseInt(digits.toString());
        }

        Node reference(Block block) {
            int name = name();
            Node node = block.meant(name);
            if (node == null || node.counted || !(node.what.equals("u") || node.what.equals("i"))) {
                throw new Fault(at - 1);
            }
            return node;
        }

        List<Node> block(Block block, int depth) {
            while (true) {
                int next = next();
                boolean begins = next == '?' || next == '.' || next == '@' || next >= 'a' && next <= 'z';
                if (!begins) {
                    return block.before;
                }
                if (items == 24) {
                    throw new Fault(at);
                }
                items++;
                block.before.add(item(block, depth));
            }
        }

        Node item(Block block, int depth) {
            Node node = new Node();
            if (next() == '?') {
                take("?");
                node.condition = reference(block);
                take("=");
                node.conditionNumber = number();
            }
            int next = next();
            if (next == '.' || next == '@') {
                node.what = String.valueOf((char) take(".@"));
                next();
                int start = at;
                node.number = number();
                if (next == '@' && node.number == 0) {
                    throw new Fault(start);
                }
            } else {
                node.name = name();
                if (block.named(node.name) != null) {
                    throw new Fault(at - 1);
                }
                take(":");
                type(node, block, depth);
            }
            take(";");
            return node;
        }

        void type(Node node, Block block, int depth) {
            int sign = take("ui{xsc");
            node.what = String.valueOf((char) sign);
            if (sign == '{') {
                if (depth == 3) {
                    throw new Fault(at - 1);
                }
                node.inside = block(new Block(block), depth + 1);
                take("}");
                count(node, block);
            } else if (sign == 'u' || sign == 'i') {
                node.size = take("124") - '0';
                if (next() == '<') {
                    take("<");
                    node.little = true;
                }
                count(node, block);
            } else {
                node.size = sign == 'x' ? 1 : 2;
                take("(");
                node.first = sibling(block);
                take(",");
                node.second = sibling(block);
                if (block.before.indexOf(node.second) < block.before.indexOf(node.first)) {
                    throw new Fault(at - 1);
                }
                take(")");
            }
        }

        Node sibling(Block block) {
            Node node = block.named(name());
            if (node == null) {
                throw new Fault(at - 1);
            }
            return node;
        }

        void count(Node node, Block block) {
            if (next() != '*') {
                return;
            }
            take("*");
            int next = next();
            if (next >= '0' && next <= '9') {
                node.number = number();
            } else {
                node.counter = reference(block);
            }
            node.counted = true;
        }
    }

    static final class Spot {
        Node node;
        int start;
        int rangeStart = NONE;
        int rangeEnd = NONE;
        List<Integer> path;
    }

    static final class Broken extends RuntimeException {
        private static final long serialVersionUID = 1L;
    }

    /** What one going through of a block knows of its items, and of those around. */
    static final class Known {
        final Known around;
        final Map<Node, long[]> items = new HashMap<>();

        Known(Known around) {
            this.around = around;
        }

        long[] of(Node node) {
            long[] here = items.get(node);
            return here != null ? here : around.of(node);
        }
    }

    final class Plan {
        final List<Spot> spots = new ArrayList<>();
        final int offset;
        int position;
        int reason;
        int steps;

        Plan(List<Node> nodes, int offset) {
            this.offset = offset;
            position = offset;
            try {
                go(nodes, new Known(null), new ArrayList<>());
            } catch (Broken broken) {
                spots.size();
            }
        }

        void stop(int why) {
            reason = why;
            throw new Broken();
        }

        void step() {
            if (steps == 400) {
                stop(3);
            }
            steps++;
        }

        void go(List<Node> nodes, Known around, List<Integer> path) {
            Known known = new Known(around);
            for (Node node : nodes) {
                step();
                long[] facts = {0, position, position};
                boolean absent = node.condition != null && known.of(node.condition)[0] != node.conditionNumber;
                if (!absent) {
                    present(node, known, path, facts);
                }
                facts[2] = position;
                known.items.put(node, facts);
            }
        }

        void present(Node node, Known known, List<Integer> path, long[] facts) {
            if (node.what.equals(".")) {
                position += node.number;
                return;
            }
            if (node.what.equals("@")) {
                while ((position - offset) % node.number != 0) {
                    position++;
                }
                return;
            }
            long times = !node.counted ? 1 : node.counter == null ? node.number : known.of(node.counter)[0];
            times = times < 0 ? 0 : times > 999 ? 999 : times;
            for (int n = 0; n < times; n++) {
                List<Integer> names = new ArrayList<>(path);
                names.add(1000 * n + node.name);
                if (node.what.equals("{")) {
                    step();
                    go(node.inside, known, names);
                } else {
                    lay(node, known, names, facts);
                }
            }
        }

        void lay(Node node, Known known, List<Integer> names, long[] facts) {
            if (spots.size() == 60) {
                stop(2);
            }
            if (position + node.size > bytes.size()) {
                stop(1);
            }
            Spot spot = new Spot();
            spot.node = node;
            spot.start = position;
            spot.path = names;
            if (node.first != null) {
                spot.rangeStart = (int) known.of(node.first)[1];
                spot.rangeEnd = (int) known.of(node.second)[2];
            }
            spots.add(spot);
            position += node.size;
            facts[0] = valueOf(spot);
        }
    }

    static final class Snapshot {
        final List<Integer> bytes;
        final int[][] overlays;

        Snapshot(List<Integer> bytes, int[][] overlays) {
            this.bytes = new ArrayList<>(bytes);
            this.overlays = new int[4][];
            for (int i = 0; i < 4; i++) {
                this.overlays[i] = overlays[i] == null ? null : overlays[i].clone();
            }
        }
    }

    List<Integer> bytes = new ArrayList<>();
    List<Integer> clip = new ArrayList<>();
    List<Integer> mark = new ArrayList<>();
    int[][] overlays = new int[4][];
    String text = "";
    final List<List<Node>> templates = new ArrayList<>();
    final int[] sizes = new int[4];
    boolean following = false;
    final List<Snapshot> past = new ArrayList<>();
    final List<Snapshot> future = new ArrayList<>();

    Model() {
        for (int i = 0; i < 4; i++) {
            templates.add(new ArrayList<>());
        }
    }

    // ---- text

    int type(int letter) {
        if (letter < 0 || letter > 127) {
            return BAD;
        }
        if (text.length() == 120) {
            return FULL;
        }
        text += (char) letter;
        return text.length();
    }

    int clearText() {
        int had = text.length();
        text = "";
        return had;
    }

    int templateFault() {
        try {
            new Reader(text).template();
            return NONE;
        } catch (Fault fault) {
            return fault.at;
        }
    }

    int define(int template) {
        if (template < 0 || template > 3) {
            return BAD;
        }
        for (int[] overlay : overlays) {
            if (overlay != null && overlay[0] == template) {
                return STATE;
            }
        }
        if (templateFault() != NONE) {
            return STATE;
        }
        Reader reader = new Reader(text);
        templates.set(template, reader.template());
        sizes[template] = reader.items;
        text = "";
        return reader.items;
    }

    int items(int template) {
        return template < 0 || template > 3 ? BAD : sizes[template];
    }

    int patternFault() {
        String digits = "0123456789abcdef?";
        int at = 0;
        int pairs = 0;
        while (true) {
            while (at < text.length() && text.charAt(at) == ' ') {
                at++;
            }
            if (at == text.length()) {
                return pairs == 0 ? at : NONE;
            }
            if (pairs == 16 || digits.indexOf(text.charAt(at)) < 0) {
                return at;
            }
            at++;
            if (at == text.length() || digits.indexOf(text.charAt(at)) < 0) {
                return at;
            }
            at++;
            pairs++;
        }
    }

    boolean matchesAt(int at) {
        String pattern = text.replace(" ", "");
        if (at + pattern.length() / 2 > bytes.size()) {
            return false;
        }
        for (int i = 0; i < pattern.length(); i++) {
            String digits = String.format("%02x", bytes.get(at + i / 2));
            if (pattern.charAt(i) != '?' && pattern.charAt(i) != digits.charAt(i % 2)) {
                return false;
            }
        }
        return true;
    }

    int find(int from) {
        if (from < 0 || from > 200) {
            return BAD;
        }
        if (patternFault() != NONE) {
            return STATE;
        }
        for (int at = from; at <= bytes.size(); at++) {
            if (matchesAt(at)) {
                return at;
            }
        }
        return NONE;
    }

    int matches() {
        if (patternFault() != NONE) {
            return STATE;
        }
        int n = 0;
        for (int at = 0; at <= bytes.size(); at++) {
            n += matchesAt(at) ? 1 : 0;
        }
        return n;
    }

    // ---- changes

    Snapshot snapshot() {
        return new Snapshot(bytes, overlays);
    }

    void restore(Snapshot snapshot) {
        Snapshot own = new Snapshot(snapshot.bytes, snapshot.overlays);
        bytes = own.bytes;
        overlays = own.overlays;
    }

    /** Ends a change; returns the rounds that changed a byte, or UNSTABLE. */
    int end(Snapshot before, boolean update) {
        int rounds = 0;
        if (update) {
            for (int n = 1; n <= 8; n++) {
                if (!round()) {
                    break;
                }
                rounds++;
            }
            if (rounds == 8) {
                restore(before);
                return UNSTABLE;
            }
        }
        past.add(before);
        if (past.size() > 12) {
            past.remove(0);
        }
        future.clear();
        return rounds;
    }

    boolean round() {
        boolean changed = false;
        for (int o = 0; o < 4; o++) {
            if (overlays[o] == null) {
                continue;
            }
            for (Spot spot : plan(o).spots) {
                if (isCheck(spot) && valueOf(spot) != expectedOf(spot)) {
                    set(spot, expectedOf(spot));
                    changed = true;
                }
            }
        }
        return changed;
    }

    void put(int at, List<Integer> values) {
        bytes.addAll(at, values);
        for (int[] overlay : overlays) {
            if (overlay != null && overlay[1] > at) {
                overlay[1] += values.size();
            }
        }
    }

    int length() {
        return bytes.size();
    }

    int byteAt(int at) {
        return at < 0 || at >= bytes.size() ? BAD : bytes.get(at);
    }

    int insert(int at, int value, int n) {
        if (at < 0 || at > bytes.size() || value < 0 || value > 255 || n < 1 || n > 64) {
            return BAD;
        }
        if (bytes.size() + n > 200) {
            return FULL;
        }
        Snapshot before = snapshot();
        put(at, java.util.Collections.nCopies(n, value));
        return end(before, following) == UNSTABLE ? UNSTABLE : bytes.size();
    }

    int delete(int at, int n) {
        if (at < 0 || n < 1 || (long) at + n > bytes.size()) {
            return BAD;
        }
        Snapshot before = snapshot();
        bytes.subList(at, at + n).clear();
        for (int[] overlay : overlays) {
            if (overlay != null && overlay[1] > at) {
                overlay[1] = overlay[1] - n < at ? at : overlay[1] - n;
            }
        }
        return end(before, following) == UNSTABLE ? UNSTABLE : bytes.size();
    }

    int overwrite(int at, int value) {
        if (at < 0 || at >= bytes.size() || value < 0 || value > 255) {
            return BAD;
        }
        Snapshot before = snapshot();
        int previous = bytes.set(at, value);
        return end(before, following) == UNSTABLE ? UNSTABLE : previous;
    }

    int copy(int at, int n) {
        if (at < 0 || at > bytes.size() || n < 0 || n > 32 || at + n > bytes.size()) {
            return BAD;
        }
        clip = new ArrayList<>(bytes.subList(at, at + n));
        return n;
    }

    int paste(int at) {
        if (at < 0 || at > bytes.size()) {
            return BAD;
        }
        if (clip.isEmpty()) {
            return STATE;
        }
        if (bytes.size() + clip.size() > 200) {
            return FULL;
        }
        Snapshot before = snapshot();
        put(at, clip);
        return end(before, following) == UNSTABLE ? UNSTABLE : bytes.size();
    }

    int pasteOver(int at) {
        if (at < 0 || at > bytes.size()) {
            return BAD;
        }
        if (clip.isEmpty()) {
            return STATE;
        }
        if (at + clip.size() > bytes.size()) {
            return FULL;
        }
        Snapshot before = snapshot();
        for (int i = 0; i < clip.size(); i++) {
            bytes.set(at + i, clip.get(i));
        }
        return end(before, following) == UNSTABLE ? UNSTABLE : clip.size();
    }

    // ---- overlays

    boolean present(int overlay) {
        return overlay >= 0 && overlay <= 3 && overlays[overlay] != null;
    }

    Plan plan(int overlay) {
        return new Plan(templates.get(overlays[overlay][0]), overlays[overlay][1]);
    }

    Spot spot(int overlay, int i) {
        if (!present(overlay)) {
            return null;
        }
        Plan plan = plan(overlay);
        return i < 0 || i >= plan.spots.size() ? null : plan.spots.get(i);
    }

    boolean isCheck(Spot spot) {
        return spot.node.first != null;
    }

    boolean isWrong(Spot spot) {
        return isCheck(spot) && valueOf(spot) != expectedOf(spot);
    }

    long valueOf(Spot spot) {
        StringBuilder hex = new StringBuilder();
        for (int i = 0; i < spot.node.size; i++) {
            String digits = String.format("%02x", bytes.get(spot.start + i));
            if (spot.node.little) {
                hex.insert(0, digits);
            } else {
                hex.append(digits);
            }
        }
        long value = Long.parseLong(hex.toString(), 16);
        if (spot.node.what.equals("i")) {
            value = spot.node.size == 1 ? (byte) value : spot.node.size == 2 ? (short) value : (int) value;
        }
        return value;
    }

    void set(Spot spot, long value) {
        for (int i = 0; i < spot.node.size; i++) {
            int at = spot.node.little ? spot.start + i : spot.start + spot.node.size - 1 - i;
            bytes.set(at, (int) Math.floorMod(value, 256L));
            value = Math.floorDiv(value, 256L);
        }
    }

    long expectedOf(Spot spot) {
        long result = spot.node.what.equals("c") ? 65535 : 0;
        for (int at = spot.rangeStart; at < spot.rangeEnd; at++) {
            int b = bytes.get(at);
            if (spot.node.what.equals("x")) {
                result ^= b;
            } else if (spot.node.what.equals("s")) {
                result = (result + b) % 65536;
            } else {
                result ^= 256 * b;
                for (int i = 0; i < 8; i++) {
                    boolean top = result >= 32768;
                    result = result * 2 % 65536;
                    result = top ? result ^ 4129 : result;
                }
            }
        }
        return result;
    }

    int lay(int overlay, int template, int offset) {
        if (overlay < 0 || overlay > 3 || template < 0 || template > 3 || offset < 0 || offset > bytes.size()) {
            return BAD;
        }
        Snapshot before = snapshot();
        overlays[overlay] = new int[] {template, offset};
        return end(before, following) == UNSTABLE ? UNSTABLE : plan(overlay).spots.size();
    }

    int remove(int overlay) {
        if (!present(overlay)) {
            return BAD;
        }
        Snapshot before = snapshot();
        int offset = overlays[overlay][1];
        overlays[overlay] = null;
        return end(before, following) == UNSTABLE ? UNSTABLE : offset;
    }

    int wrong(int overlay) {
        int wrong = 0;
        for (Spot spot : plan(overlay).spots) {
            wrong += isWrong(spot) ? 1 : 0;
        }
        return wrong;
    }

    int overlay(int overlay, int what) {
        if (!present(overlay) || what < 0 || what > 5) {
            return BAD;
        }
        Plan plan = plan(overlay);
        int[] all = {overlays[overlay][0], overlays[overlay][1], plan.spots.size(), plan.reason, plan.position,
            wrong(overlay)};
        return all[what];
    }

    int field(int overlay, int i, int what) {
        Spot spot = spot(overlay, i);
        if (spot == null || what < 0 || what > 6) {
            return BAD;
        }
        int[] all = {spot.start, spot.node.size, "uixsc".indexOf(spot.node.what), spot.node.little ? 1 : 0,
            spot.rangeStart, spot.rangeEnd, spot.path.size()};
        return all[what];
    }

    long value(int overlay, int i) {
        Spot spot = spot(overlay, i);
        return spot == null ? Long.MIN_VALUE : valueOf(spot);
    }

    int path(int overlay, int i, int level) {
        Spot spot = spot(overlay, i);
        if (spot == null) {
            return BAD;
        }
        return level < 0 || level >= spot.path.size() ? NONE : spot.path.get(level);
    }

    int fieldAt(int overlay, int at) {
        if (!present(overlay) || at < 0 || at >= bytes.size()) {
            return BAD;
        }
        List<Spot> spots = plan(overlay).spots;
        for (int i = 0; i < spots.size(); i++) {
            int start = spots.get(i).start;
            if (start <= at && at < start + spots.get(i).node.size) {
                return i;
            }
        }
        return NONE;
    }

    int counterpart(int overlay, int i, int other) {
        Spot spot = spot(overlay, i);
        if (spot == null || !present(other)) {
            return BAD;
        }
        List<Spot> spots = plan(other).spots;
        for (int k = 0; k < spots.size(); k++) {
            if (spots.get(k).path.equals(spot.path)) {
                return k;
            }
        }
        return NONE;
    }

    int setField(int overlay, int i, long value) {
        Spot spot = spot(overlay, i);
        if (spot == null) {
            return BAD;
        }
        Snapshot before = snapshot();
        set(spot, value);
        if (valueOf(spot) != value) {
            restore(before);
            return RANGE;
        }
        return end(before, following) == UNSTABLE ? UNSTABLE : plan(overlay).spots.size();
    }

    // ---- checks

    int follow(boolean on) {
        int was = following ? 1 : 0;
        following = on;
        return was;
    }

    int refresh() {
        return end(snapshot(), true);
    }

    int expected(int overlay, int i) {
        Spot spot = spot(overlay, i);
        return spot == null ? BAD : isCheck(spot) ? (int) expectedOf(spot) : NONE;
    }

    int repair(int overlay, int i) {
        Spot spot = spot(overlay, i);
        if (spot == null) {
            return BAD;
        }
        if (!isWrong(spot)) {
            return STATE;
        }
        for (int at = spot.rangeStart; at < spot.rangeEnd && at < spot.rangeStart + 16; at++) {
            int had = bytes.get(at);
            for (int v = 0; v < 256; v++) {
                bytes.set(at, v);
                boolean right = expectedOf(spot) == valueOf(spot);
                bytes.set(at, had);
                if (right) {
                    return 256 * at + v;
                }
            }
        }
        return NONE;
    }

    // ---- history, comparison

    int undo() {
        if (past.isEmpty()) {
            return STATE;
        }
        future.add(snapshot());
        restore(past.remove(past.size() - 1));
        return past.size();
    }

    int redo() {
        if (future.isEmpty()) {
            return STATE;
        }
        past.add(snapshot());
        restore(future.remove(future.size() - 1));
        return future.size();
    }

    int mark() {
        mark = new ArrayList<>(bytes);
        return mark.size();
    }

    int difference(int from) {
        if (from < 0 || from > 200) {
            return BAD;
        }
        for (int at = from; at < bytes.size() || at < mark.size(); at++) {
            if (at >= bytes.size() || at >= mark.size() || !bytes.get(at).equals(mark.get(at))) {
                return at;
            }
        }
        return NONE;
    }

    int distance() {
        int[][] table = new int[mark.size() + 1][bytes.size() + 1];
        for (int i = 0; i <= mark.size(); i++) {
            for (int k = 0; k <= bytes.size(); k++) {
                if (i == 0 || k == 0) {
                    table[i][k] = i + k;
                    continue;
                }
                int replaced = table[i - 1][k - 1] + (mark.get(i - 1).equals(bytes.get(k - 1)) ? 0 : 1);
                table[i][k] = Math.min(replaced, 1 + Math.min(table[i - 1][k], table[i][k - 1]));
            }
        }
        return table[mark.size()][bytes.size()];
    }

    int count(int what) {
        int present = 0;
        int wrong = 0;
        for (int o = 0; o < 4; o++) {
            present += present(o) ? 1 : 0;
            wrong += present(o) ? wrong(o) : 0;
        }
        int[] all = {present, wrong, past.size(), future.size(), clip.size(), mark.size(), text.length(),
            following ? 1 : 0};
        return what < 0 || what > 7 ? BAD : all[what];
    }

    long digest() {
        List<Long> numbers = new ArrayList<>();
        numbers.add((long) bytes.size());
        for (int b : bytes) {
            numbers.add((long) b);
        }
        for (int o = 0; o < 4; o++) {
            if (!present(o)) {
                numbers.add(-1L);
                continue;
            }
            for (int what = 0; what <= 5; what++) {
                numbers.add((long) overlay(o, what));
            }
            for (Spot spot : plan(o).spots) {
                numbers.add((long) spot.start);
                numbers.add((long) spot.node.size);
                numbers.add((long) "uixsc".indexOf(spot.node.what));
                numbers.add(spot.node.little ? 1L : 0L);
                numbers.add((long) spot.rangeStart);
                numbers.add((long) spot.rangeEnd);
                numbers.add((long) spot.path.size());
                numbers.add(valueOf(spot));
                for (int name : spot.path) {
                    numbers.add((long) name);
                }
            }
        }
        for (int size : sizes) {
            numbers.add((long) size);
        }
        for (int what = 0; what <= 7; what++) {
            numbers.add((long) count(what));
        }
        long h = 11;
        for (long number : numbers) {
            h = 31 * h + number;
        }
        return h;
    }
}
