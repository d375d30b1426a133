/**
 * The section 'What it is': a session brings the target up to the source, and a crash at any moment
 * leaves every file of the target wholly old or wholly new.
 */
public final class CarryTest {
    private static final int NAMES = 12;
    // Old and new bytes of the target by names; a missing old one is made, a missing new one is no
    // entry. The names 6 and 7 are not selected.
    private static final int[][] OLD = {
        {1, 2, 3, 4, 5, 6}, null, {16}, {0, 0, 0}, {9, 8, 7}, {5}, {1, 1}, null, null, null, {7}, {3}};
    private static final int[][] NEW = {
        {9, 1, 2, 3, 4, 8}, {4, 4}, {0}, {16, 16, 16}, null, {5}, {2, 2}, {6}, null, {255, 0}, null,
        {3, 3}};

    // More than a session of these trees has, its repeats among them.
    private static final int ENOUGH_DELIVERIES = 40;

    public static void main(String[] args) {
        for (int block = 1; block <= 8; block++) {
            completeSession(block, false);
            completeSession(block, true);
            for (int order = 0; order < 3; order++) {
                for (int delivered = 0; delivered <= ENOUGH_DELIVERIES; delivered++) {
                    crashAfter(delivered, order, block);
                }
            }
        }
        exampleOfTheReadme();
        Check.finish();
    }

    private static TreeCarrier twoTrees() {
        TreeCarrier x = new TreeCarrier();
        for (int name = 0; name < NAMES; name++) {
            fillFrom(x, Check.SOURCE, name, NEW[name]);
            fillFrom(x, Check.TARGET, name, OLD[name]);
        }
        Check.due("rule", x.rule(false, 14, 6), true);
        return x;
    }

    private static void fillFrom(TreeCarrier x, int tree, int name, int[] bytes) {
        if (bytes != null) {
            Check.fill(x, tree, name, bytes);
        }
    }

    private static void dueBytes(String what, TreeCarrier x, int name, int[] bytes) {
        if (bytes == null) {
            Check.dueNoFile(what, x, Check.TARGET, name);
        } else {
            Check.dueFile(what, x, Check.TARGET, name, bytes);
        }
    }

    private static boolean isCarried(int name) {
        return NEW[name] != null && name != 6 && name != 7;
    }

    private static void completeSession(int block, boolean deletes) {
        TreeCarrier x = twoTrees();
        Check.due("begin", x.begin(block, deletes), true);
        Check.carry(x);
        for (int name = 0; name < NAMES; name++) {
            String what = "block " + block + ", deletes " + deletes + ", name " + name;
            boolean deleted = deletes && (name == 4 || name == 10);
            dueBytes(what, x, name, isCarried(name) ? NEW[name] : deleted ? null : OLD[name]);
            if (isCarried(name)) {
                Check.due(what + ": time", x.time(1, name), x.time(0, name));
            }
        }
        Check.due("failures", x.count(Check.FAILURES), 0);
        Check.due("deleted", x.count(Check.DELETED), deletes ? 2 : 0);
    }

    private static void crashAfter(int delivered, int order, int block) {
        String what = "block " + block + ", order " + order + ", crash after " + delivered;
        TreeCarrier x = twoTrees();
        int[] oldTimes = new int[NAMES];
        for (int name = 0; name < NAMES; name++) {
            oldTimes[name] = x.time(Check.TARGET, name);
        }
        x.begin(block, false);
        int deltas = 0;
        for (int i = 0; i < delivered && x.on(); i++) {
            deltas += deliverNext(x, order, i) == Check.DELTA ? 1 : 0;
        }
        boolean complete = !x.on();
        Check.due(what + ": enough deliveries", complete || delivered < ENOUGH_DELIVERIES, true);
        Check.due(what + ": crash", x.crash(), !complete);
        Check.due(what + ": complete", x.count(Check.COMPLETE), complete ? 1 : 0);
        int renewed = countNew(what, x, oldTimes);
        int recorded = x.journal();
        Check.due(what + ": files are new when their records are done", renewed,
                x.count(Check.DONE));
        Check.due(what + ": records of all deltas but the repeated", renewed + recorded,
                deltas - x.count(Check.REPEATS));

        Check.due(what + ": begin", x.begin(block, false), true);
        Check.due(what + ": the replay", countNew(what, x, oldTimes), renewed + recorded);
        Check.carry(x);
        Check.due(what + ": carried at last", countNew(what, x, oldTimes), carriedNames());
        Check.due(what + ": once each", x.count(Check.DONE), carriedNames());
    }

    /** The receiver first, the sender first, or both in turn. */
    private static int deliverNext(TreeCarrier x, int order, int turn) {
        int first = order == 0 || order == 2 && turn % 2 == 0 ? 1 : 0;
        int kind = x.deliver(first);
        return kind == 0 ? x.deliver(1 - first) : kind;
    }

    private static int carriedNames() {
        int many = 0;
        for (int name = 0; name < NAMES; name++) {
            many += isCarried(name) ? 1 : 0;
        }
        return many;
    }

    /** How many files of the target are new; each must be wholly new, or wholly old. */
    private static int countNew(String what, TreeCarrier x, int[] oldTimes) {
        int many = 0;
        for (int name = 0; name < NAMES; name++) {
            int time = x.time(Check.TARGET, name);
            if (time == oldTimes[name]) {
                dueBytes(what + ": wholly old, name " + name, x, name, OLD[name]);
            } else {
                dueBytes(what + ": wholly new, name " + name, x, name, NEW[name]);
                Check.due(what + ": time of " + name, time, x.time(Check.SOURCE, name));
                many++;
            }
        }
        return many;
    }

    private static void exampleOfTheReadme() {
        TreeCarrier x = new TreeCarrier();
        x.put(0, 3, 97);
        x.rule(false, 8, 8);
        x.begin(4, true);
        while (x.on()) {
            if (x.deliver(1) == 0) {
                x.deliver(0);
            }
        }
        Check.due("the example of README.md", x.at(1, 3, 0), 97);
    }
}
