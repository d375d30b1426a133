/** Compares answers with what is due, and makes the runs of calls that the tests share. */
final class Check {
    static final int SOURCE = 0;
    static final int TARGET = 1;
    static final int TO_SENDER = 0;
    static final int TO_RECEIVER = 1;

    static final int ENTRY = 1;
    static final int END = 2;
    static final int SIGNATURE = 3;
    static final int DELTA = 4;
    static final int GONE = 5;

    static final int LITERALS = 0;
    static final int COPIES = 1;
    static final int REPEATS = 2;
    static final int FAILURES = 3;
    static final int COMPLETE = 4;
    static final int SKIPPED = 5;
    static final int DELETED = 6;
    static final int DONE = 7;

    private static int wrong = 0;

    private Check() {
    }

    static void due(String what, int got, int want) {
        if (got != want) {
            wrong++;
            System.out.println(what + " answered " + got + ", due is " + want);
        }
    }

    static void due(String what, boolean got, boolean want) {
        if (got != want) {
            wrong++;
            System.out.println(what + " answered " + got + ", due is " + want);
        }
    }

    static void dueText(String what, String got, String want) {
        if (!got.equals(want)) {
            wrong++;
            System.out.println(what + " is " + got + ", due is " + want);
        }
    }

    static void finish() {
        if (wrong != 0) {
            System.out.println(wrong + " answers are not as due");
            System.exit(1);
        }
    }

    /** Puts bytes to the end of a file. */
    static void fill(TreeCarrier x, int tree, int name, int... bytes) {
        for (int c : bytes) {
            due("put(" + tree + ", " + name + ", " + c + ")", x.put(tree, name, c), true);
        }
    }

    static void deliver(TreeCarrier x, int line, int... kinds) {
        for (int kind : kinds) {
            due("deliver(" + line + ")", x.deliver(line), kind);
        }
    }

    /** Delivers whatever waits until the session is over. */
    static void carry(TreeCarrier x) {
        for (int i = 0; i < 100 && x.on(); i++) {
            if (x.deliver(TO_RECEIVER) == 0) {
                x.deliver(TO_SENDER);
            }
        }
        due("on() at the end of the messages", x.on(), false);
    }

    static void dueFile(String what, TreeCarrier x, int tree, int name, int... bytes) {
        due(what + ": size", x.size(tree, name), bytes.length);
        for (int i = 0; i < bytes.length; i++) {
            due(what + ": at " + i, x.at(tree, name, i), bytes[i]);
        }
        due(what + ": at the end", x.at(tree, name, bytes.length), -1);
    }

    static void dueNoFile(String what, TreeCarrier x, int tree, int name) {
        due(what + ": size", x.size(tree, name), -1);
        due(what + ": at", x.at(tree, name, 0), -1);
        due(what + ": time", x.time(tree, name), -1);
    }

    static void dueCounts(String what, TreeCarrier x, int... counts) {
        for (int kind = 0; kind < counts.length; kind++) {
            due(what + ": count(" + kind + ")", x.count(kind), counts[kind]);
        }
    }
}
