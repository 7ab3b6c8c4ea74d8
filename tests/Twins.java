import java.util.ArrayList;
import java.util.List;

/**
 * Two objects that are told the same story; then one of them is called once more. If that call changes nothing, no
 * later call tells the two apart: not what stands, nor what is to come, what can be undone, what is kept.
 */
final class Twins {
    interface Story {
        void tell(PuddleStates p);
    }

    interface Call {
        int on(PuddleStates p);
    }

    private Twins() {
    }

    /** The call answers so, and again so, and nothing has changed by it. */
    static void unchanged(String name, Story story, int due, Call call) {
        PuddleStates called = told(story);
        Due.is(name, call.on(called), due);
        Due.is(name + ", again", call.on(called), due);
        same("behind " + name, called, told(story));
    }

    static void alike(String name, Story one, Story other) {
        same(name, told(one), told(other));
    }

    /** The first of the two differs from the second in what can be seen. */
    static boolean differ(Story one, Story other) {
        return !seen(told(one)).equals(seen(told(other)));
    }

    private static PuddleStates told(Story story) {
        PuddleStates p = new PuddleStates();
        story.tell(p);
        return p;
    }

    private static void same(String name, PuddleStates one, PuddleStates other) {
        List<String> a = seen(one);
        List<String> b = seen(other);
        Due.is(name + ": how much is seen", a.size(), b.size());
        for (int i = 0; i < a.size() && i < b.size(); i++) {
            if (!a.get(i).equals(b.get(i))) {
                Due.is(name + ": one shows " + a.get(i) + ", the other " + b.get(i), 1, 0);
                return;
            }
        }
    }

    /** Everything is used up by looking: behind it nothing is undone, kept, written. */
    private static List<String> seen(PuddleStates p) {
        List<String> all = new ArrayList<>();
        int cells = p.count(0);
        for (int what = 0; what <= 9; what++) {
            all.add("count(" + what + ") " + p.count(what));
        }
        for (int x = 0; x < cells; x++) {
            all.add("kind of " + x + " " + p.cell(x, 1));
            all.add("drops of " + x + " behind 1 hour " + p.behind(1, x, 0));
        }
        all.add("fault() " + p.fault());
        all.add("rains() " + p.rains());
        look(all, "now", p);
        for (int i = 1, left = p.undo(); i <= 20 && left != PuddleStates.NO; i++, left = p.undo()) {
            look(all, "behind undo " + i + ", " + left + " left", p);
        }
        for (int i = 1, left = p.back(); i <= 20 && left != PuddleStates.NO; i++, left = p.back()) {
            look(all, "behind back " + i + ", " + left + " left", p);
            all.add("undo() behind back " + i + " " + p.undo());
        }
        all.add("ring() " + p.ring(0, 1));
        all.add("lay() " + p.lay());
        look(all, "laid", p);
        all.add("wipe() " + p.wipe());
        return all;
    }

    private static void look(List<String> all, String when, PuddleStates p) {
        int cells = p.count(0);
        all.add("hours " + when + ": " + p.count(5));
        for (int x = 0; x < cells; x++) {
            all.add("height of " + x + " " + when + ": " + p.cell(x, 0));
            all.add("drops of " + x + " " + when + ": " + p.cell(x, 2));
        }
    }
}
