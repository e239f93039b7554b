import java.util.ArrayList;
import java.util.List;

/**
 * "A call that returns an error changes nothing." Two objects get the same calls; one of them gets the refused
 * call, too. Then both are examined, down to what only later calls can show, and must answer alike.
 */
final class Refusal {
    /** What is done before the refused call. */
    interface Run {
        void on(StructureEditor x);
    }

    interface Call {
        long on(StructureEditor x);
    }

    private Refusal() {
    }

    static void refused(String name, Run before, Call call, long want) {
        StructureEditor asked = new StructureEditor();
        StructureEditor twin = new StructureEditor();
        before.on(asked);
        before.on(twin);
        Due.due(name, call.on(asked), want);
        same(name, new Examination(asked), new Examination(twin));
    }

    private static void same(String name, Examination got, Examination want) {
        Due.due("answers about " + name, got.answers.size(), want.answers.size());
        for (int i = 0; i < Math.min(got.answers.size(), want.answers.size()); i++) {
            if (!got.answers.get(i).equals(want.answers.get(i))) {
                Due.due(got.questions.get(i) + " behind " + name, got.answers.get(i), want.answers.get(i));
                return;
            }
        }
    }

    /**
     * An object that has something of everything to lose: 12 bytes, a clipboard of 3, a mark of 9, two overlays
     * with a right and a wrong check, three templates, a text, eight changes to undo and two to redo.
     */
    static void rich(StructureEditor x) {
        Due.define(x, 0, "n:u1;d:u1*n;k:x(n,d);", 3);
        Due.define(x, 1, "a:i2<;k:s(a,a);", 2);
        Due.define(x, 2, "s:{b:u1;}*2;", 2);
        x.insert(0, 1, 1);
        x.insert(1, 2, 8);
        Due.due("mark of the rich object", x.mark(), 9);
        x.insert(4, 7, 3);
        x.overwrite(2, 3);
        Due.due("copy of the rich object", x.copy(3, 3), 3);
        Due.due("lay of the rich object", x.lay(0, 0, 0), 3);
        Due.due("lay of the rich object", x.lay(3, 1, 5), 2);
        x.overwrite(8, 9);
        x.overwrite(9, 250);
        x.overwrite(10, 251);
        x.remove(3);
        Due.due("undo of the rich object", x.undo(), 9);
        Due.due("undo of the rich object", x.undo(), 8);
        Due.text(x, "a:u1; 2");
    }

    /** The same with following switched on. */
    static void richAndFollowing(StructureEditor x) {
        rich(x);
        x.follow(true);
    }

    /** The answers of an object about itself. The object is spent by it. */
    static final class Examination {
        final List<String> questions = new ArrayList<>();
        final List<Long> answers = new ArrayList<>();
        private final StructureEditor x;

        Examination(StructureEditor x) {
            this.x = x;
            lookAtState("");
            lookAtText();
            lookAtHistory();
            lookAtTemplates();
            lookAtClipboard();
        }

        private void note(String question, long answer) {
            questions.add(question);
            answers.add(answer);
        }

        private void lookAtState(String when) {
            note("digest()" + when, x.digest());
            note("difference(0)" + when, x.difference(0));
            note("distance()" + when, x.distance());
        }

        private void lookAtText() {
            note("templateFault()", x.templateFault());
            note("patternFault()", x.patternFault());
            note("find(0)", x.find(0));
            note("matches()", x.matches());
        }

        /** Back to the oldest state, on to the newest one. */
        private void lookAtHistory() {
            for (int n = 1; n <= 13; n++) {
                note("undo " + n, x.undo());
                lookAtState(" after undo " + n);
            }
            for (int n = 1; n <= 13; n++) {
                note("redo " + n, x.redo());
                lookAtState(" after redo " + n);
            }
        }

        private void lookAtTemplates() {
            note("follow(false)", x.follow(false));
            for (int template = 0; template < 4; template++) {
                note("lay of template " + template, x.lay(template, template, 0));
                note("digest() with template " + template, x.digest());
            }
        }

        private void lookAtClipboard() {
            note("length()", x.length());
            if (x.length() > 0) {
                note("delete of all", x.delete(0, x.length()));
            }
            note("paste(0)", x.paste(0));
            lookAtState(" after paste(0)");
        }
    }
}
