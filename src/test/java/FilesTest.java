/** Promises 1, 3, 4, 5, 10, 11 and 12: a new object, and the files of the two trees. */
public final class FilesTest {
    private static final int[] WRONG_TREES = {-1, 2, 3, Integer.MIN_VALUE, Integer.MAX_VALUE};
    private static final int[] WRONG_NAMES = {-1, 12, 13, -12, Integer.MIN_VALUE, Integer.MAX_VALUE};
    private static final int[] WRONG_BYTES = {-1, 256, 257, Integer.MIN_VALUE, Integer.MAX_VALUE};

    public static void main(String[] args) {
        newObject();
        putAppends();
        putRefuses();
        setChanges();
        setRefuses();
        removeTakesAway();
        wrongPlacesAnswerNone();
        clockOfBothTrees();
        filesChangeDuringSession();
        Check.finish();
    }

    private static void newObject() {
        TreeCarrier x = new TreeCarrier();
        for (int name = 0; name < 12; name++) {
            Check.dueNoFile("new source " + name, x, 0, name);
            Check.dueNoFile("new target " + name, x, 1, name);
            Check.due("new: selected " + name, x.selected(name), true);
        }
        Check.due("new: on", x.on(), false);
        Check.due("new: journal", x.journal(), 0);
        Check.due("new: waiting(0)", x.waiting(0), 0);
        Check.due("new: waiting(1)", x.waiting(1), 0);
        Check.due("new: next(0)", x.next(0), 0);
        Check.due("new: next(1)", x.next(1), 0);
        Check.due("new: deliver(0)", x.deliver(0), 0);
        Check.due("new: deliver(1)", x.deliver(1), 0);
        Check.due("new: crash", x.crash(), false);
        Check.dueCounts("new", x, 0, 0, 0, 0, 0, 0, 0, 0);
    }

    private static void putAppends() {
        TreeCarrier x = new TreeCarrier();
        Check.fill(x, 0, 0, 0, 255, 7);
        Check.fill(x, 1, 11, 9);
        Check.dueFile("put source", x, 0, 0, 0, 255, 7);
        Check.dueFile("put target", x, 1, 11, 9);
        Check.dueNoFile("other tree", x, 1, 0);
        Check.dueNoFile("other name", x, 0, 11);
        Check.due("put: time", x.time(0, 0), 3);
        Check.due("put: time of the second", x.time(1, 11), 4);
        for (int i = 3; i < 40; i++) {
            Check.due("put " + i, x.put(0, 0, i), true);
        }
        Check.due("put of byte 41", x.put(0, 0, 1), false);
        Check.due("size of the full file", x.size(0, 0), 40);
        Check.due("last byte of the full file", x.at(0, 0, 39), 39);
        Check.due("time of the full file", x.time(0, 0), 41);
        Check.fill(x, 0, 1, 5);
        Check.due("a refused put leaves the clock", x.time(0, 1), 42);
    }

    private static void putRefuses() {
        TreeCarrier x = new TreeCarrier();
        for (int tree : WRONG_TREES) {
            Check.due("put to tree " + tree, x.put(tree, 0, 0), false);
        }
        for (int name : WRONG_NAMES) {
            Check.due("put to name " + name, x.put(0, name, 0), false);
            Check.due("put to name " + name, x.put(1, name, 0), false);
        }
        for (int c : WRONG_BYTES) {
            Check.due("put of " + c, x.put(0, 0, c), false);
        }
        for (int name = 0; name < 12; name++) {
            Check.dueNoFile("after refused puts", x, 0, name);
            Check.dueNoFile("after refused puts", x, 1, name);
        }
        Check.fill(x, 0, 0, 1);
        Check.due("clock after refused puts", x.time(0, 0), 1);
    }

    private static void setChanges() {
        TreeCarrier x = new TreeCarrier();
        Check.fill(x, 0, 4, 1, 2, 3);
        Check.fill(x, 1, 4, 1, 2, 3);
        Check.due("set first", x.set(0, 4, 0, 255), true);
        Check.due("set: time", x.time(0, 4), 7);
        Check.due("set last", x.set(0, 4, 2, 0), true);
        Check.dueFile("set", x, 0, 4, 255, 2, 0);
        Check.dueFile("set leaves the other tree", x, 1, 4, 1, 2, 3);
        Check.due("set leaves the other time", x.time(1, 4), 6);
        Check.due("set of the same byte", x.set(1, 4, 1, 2), true);
        Check.dueFile("set of the same byte", x, 1, 4, 1, 2, 3);
        Check.due("set of the same byte: time", x.time(1, 4), 9);
    }

    private static void setRefuses() {
        TreeCarrier x = new TreeCarrier();
        Check.fill(x, 0, 4, 1, 2, 3);
        for (int tree : WRONG_TREES) {
            Check.due("set in tree " + tree, x.set(tree, 4, 0, 9), false);
        }
        for (int name : WRONG_NAMES) {
            Check.due("set in name " + name, x.set(0, name, 0, 9), false);
        }
        for (int c : WRONG_BYTES) {
            Check.due("set of " + c, x.set(0, 4, 0, c), false);
        }
        for (int place : new int[] {-1, 3, 39, 40, 41, Integer.MIN_VALUE, Integer.MAX_VALUE}) {
            Check.due("set at " + place, x.set(0, 4, place, 9), false);
        }
        Check.due("set without a file", x.set(1, 4, 0, 9), false);
        Check.due("set without a file", x.set(0, 5, 0, 9), false);
        Check.dueFile("after refused sets", x, 0, 4, 1, 2, 3);
        Check.due("time after refused sets", x.time(0, 4), 3);
        Check.dueNoFile("after refused sets", x, 0, 5);
        Check.fill(x, 0, 5, 1);
        Check.due("clock after refused sets", x.time(0, 5), 4);
    }

    private static void removeTakesAway() {
        TreeCarrier x = new TreeCarrier();
        Check.fill(x, 0, 6, 1, 2);
        Check.fill(x, 1, 6, 3);
        Check.due("remove", x.remove(0, 6), true);
        Check.dueNoFile("removed", x, 0, 6);
        Check.dueFile("the other tree's", x, 1, 6, 3);
        Check.due("the other tree's time", x.time(1, 6), 3);
        Check.due("remove again", x.remove(0, 6), false);
        Check.due("set in the removed", x.set(0, 6, 0, 1), false);
        Check.due("remove of no file", x.remove(1, 5), false);
        for (int tree : WRONG_TREES) {
            Check.due("remove in tree " + tree, x.remove(tree, 6), false);
        }
        for (int name : WRONG_NAMES) {
            Check.due("remove of name " + name, x.remove(1, name), false);
        }
        Check.fill(x, 0, 6, 8);
        Check.dueFile("made again", x, 0, 6, 8);
        Check.due("remove grows the clock, a refused one not", x.time(0, 6), 5);
    }

    private static void wrongPlacesAnswerNone() {
        TreeCarrier x = new TreeCarrier();
        for (int name = 0; name < 12; name++) {
            Check.fill(x, 0, name, 1);
            Check.fill(x, 1, name, 1);
        }
        for (int tree : WRONG_TREES) {
            Check.dueNoFile("tree " + tree, x, tree, 0);
        }
        for (int name : WRONG_NAMES) {
            Check.dueNoFile("name " + name, x, 0, name);
            Check.dueNoFile("name " + name, x, 1, name);
        }
        for (int place : new int[] {-1, 1, 40, Integer.MIN_VALUE, Integer.MAX_VALUE}) {
            Check.due("at " + place, x.at(0, 0, place), -1);
        }
    }

    private static void clockOfBothTrees() {
        TreeCarrier x = new TreeCarrier();
        for (int name = 0; name < 12; name++) {
            Check.fill(x, name % 2, name, name);
        }
        for (int name = 0; name < 12; name++) {
            Check.due("time of " + name, x.time(name % 2, name), name + 1);
            Check.dueFile("file " + name, x, name % 2, name, name);
        }
    }

    private static void filesChangeDuringSession() {
        TreeCarrier x = new TreeCarrier();
        Check.fill(x, 0, 1, 1);
        Check.due("begin", x.begin(1, false), true);
        Check.fill(x, 0, 1, 2);
        Check.fill(x, 1, 1, 3);
        Check.due("set during a session", x.set(1, 1, 0, 4), true);
        Check.due("time during a session", x.time(1, 1), 4);
        Check.dueFile("source during a session", x, 0, 1, 1, 2);
        Check.dueFile("target during a session", x, 1, 1, 4);
        Check.due("remove during a session", x.remove(1, 1), true);
        Check.dueNoFile("removed during a session", x, 1, 1);
        Check.due("rule during a session", x.rule(true, 1, 1), true);
    }
}
