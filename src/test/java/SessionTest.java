/** Promises 6 to 9 and 14 to 17: sessions, their messages, the journal and the counts. */
public final class SessionTest {
    private static final int[] WRONG_LINES = {-1, 2, 3, Integer.MIN_VALUE, Integer.MAX_VALUE};

    public static void main(String[] args) {
        beginRefuses();
        nothingToSend();
        entriesOfSelectedNames();
        skipping();
        entriesTellTheBeginning();
        filesChangeUnderWay();
        gone();
        repeatsAndFailures();
        copyOfAShortenedFile();
        journalBehindDeliveries();
        linesAreQueues();
        crashAndReplay();
        crashForgets();
        deleting();
        rulesUnderWay();
        wrongLinesAndKinds();
        allNamesManySessions();
        Check.finish();
    }

    private static void beginRefuses() {
        TreeCarrier x = new TreeCarrier();
        for (int block : new int[] {0, 9, -1, 10, Integer.MIN_VALUE, Integer.MAX_VALUE}) {
            Check.due("begin(" + block + ")", x.begin(block, true), false);
            Check.due("on", x.on(), false);
            Check.due("waiting", x.waiting(1), 0);
        }
        for (int block = 1; block <= 8; block++) {
            Check.due("begin(" + block + ")", x.begin(block, false), true);
            Check.due("on", x.on(), true);
            Check.due("begin while one is on", x.begin(block, false), false);
            Check.due("waiting after a refused begin", x.waiting(1), 1);
            Check.due("crash", x.crash(), true);
            Check.due("on", x.on(), false);
        }
    }

    private static void nothingToSend() {
        TreeCarrier x = new TreeCarrier();
        Check.due("begin", x.begin(1, false), true);
        Check.due("on before the end", x.on(), true);
        Check.due("waiting(0)", x.waiting(0), 0);
        Check.due("waiting(1)", x.waiting(1), 1);
        Check.due("next(1)", x.next(1), Check.END);
        Check.due("on after looking", x.on(), true);
        Check.deliver(x, 0, 0);
        Check.deliver(x, 1, Check.END);
        Check.due("on after the end", x.on(), false);
        Check.dueCounts("nothing", x, 0, 0, 0, 0, 1, 0, 0, 0);
        Check.due("deliver after the session", x.deliver(1), 0);
        Check.due("crash after the session", x.crash(), false);

        x = new TreeCarrier();
        Check.fill(x, 0, 3, 1);
        x.rule(false, 0, 0);
        Check.due("begin", x.begin(1, true), true);
        Check.due("nothing selected: waiting", x.waiting(1), 1);
        Check.deliver(x, 1, Check.END);
        Check.due("nothing selected: over", x.on(), false);
        Check.dueNoFile("nothing selected", x, 1, 3);
        Check.due("nothing selected: complete", x.count(Check.COMPLETE), 1);
    }

    private static void entriesOfSelectedNames() {
        TreeCarrier x = new TreeCarrier();
        for (int name = 11; name >= 0; name--) {
            Check.fill(x, 0, name, name);
        }
        x.rule(true, 15, 5);
        x.rule(false, 1, 1);
        Check.due("begin", x.begin(1, false), true);
        Check.due("seven entries and an end", x.waiting(1), 8);
        Check.deliver(x, 1, 1, 1, 1, 1, 1, 1, 1);
        Check.due("no signature before the end", x.waiting(0), 0);
        Check.due("on before the end", x.on(), true);
        Check.deliver(x, 1, Check.END);
        Check.due("signatures", x.waiting(0), 7);
        int[] order = {0, 2, 4, 5, 6, 8, 10};
        for (int name : order) {
            Check.deliver(x, 0, Check.SIGNATURE);
            Check.deliver(x, 1, Check.DELTA);
            int last = x.on() ? 1 : 0;
            Check.due("journal after " + name, x.journal(), last);
        }
        for (int name = 0; name < 12; name++) {
            boolean carried = name % 2 == 0 || name == 5;
            Check.due("size of " + name, x.size(1, name), carried ? 1 : -1);
            Check.due("byte of " + name, x.at(1, name, 0), carried ? name : -1);
            Check.due("time of " + name, x.time(1, name), carried ? 12 - name : -1);
        }
        Check.dueCounts("carried", x, 7, 0, 0, 0, 1, 0, 0, 7);
        risingNames();
    }

    private static void risingNames() {
        TreeCarrier x = new TreeCarrier();
        Check.fill(x, 0, 11, 1);
        Check.fill(x, 0, 4, 2);
        Check.fill(x, 0, 7, 3);
        x.begin(1, false);
        Check.deliver(x, 1, 1, 1, 1, 2);
        Check.deliver(x, 0, 3, 3, 3);
        Check.deliver(x, 1, 4, 4);
        Check.due("4 is done first", x.size(1, 4), 1);
        Check.due("7 is still in the journal", x.size(1, 7), -1);
        Check.due("journal", x.journal(), 1);
        Check.due("11 comes last", x.size(1, 11), -1);
        Check.deliver(x, 1, 4);
        Check.due("7 is done", x.size(1, 7), 1);
        Check.due("11 is done", x.size(1, 11), 1);
        Check.due("journal", x.journal(), 0);
    }

    private static void skipping() {
        TreeCarrier x = new TreeCarrier();
        Check.fill(x, 0, 1, 5, 6);
        Check.fill(x, 0, 2, 5, 6);
        x.begin(2, false);
        Check.carry(x);
        Check.dueCounts("first", x, 4, 0, 0, 0, 1, 0, 0, 2);
        x.begin(2, false);
        Check.deliver(x, 1, 1, 1);
        Check.due("skipped with the end only", x.count(Check.SKIPPED), 0);
        Check.deliver(x, 1, 2);
        Check.dueCounts("all skipped", x, 4, 0, 0, 0, 2, 2, 0, 2);
        Check.due("over", x.on(), false);

        Check.due("same byte, other time", x.set(1, 2, 0, 5), true);
        x.begin(2, false);
        Check.carry(x);
        Check.dueCounts("one skipped", x, 4, 1, 0, 0, 3, 3, 0, 3);
        Check.due("time again", x.time(1, 2), x.time(0, 2));
        timeOfTheEntry();
    }

    private static void timeOfTheEntry() {
        // The source grows between entry and delta: the bytes are new, the time is the entry's.
        TreeCarrier x = new TreeCarrier();
        Check.fill(x, 0, 0, 1);
        x.begin(1, false);
        Check.deliver(x, 1, 1, 2);
        Check.fill(x, 0, 0, 2);
        Check.carry(x);
        Check.dueFile("grown under way", x, 1, 0, 1, 2);
        Check.due("with the entry's time", x.time(1, 0), 1);
        x.begin(1, false);
        Check.carry(x);
        Check.dueCounts("same bytes, other time", x, 2, 2, 0, 0, 2, 0, 0, 2);
        Check.due("time", x.time(1, 0), 2);
        x.begin(1, false);
        Check.carry(x);
        Check.dueCounts("same bytes, same time", x, 2, 2, 0, 0, 3, 1, 0, 2);
    }

    private static void entriesTellTheBeginning() {
        TreeCarrier x = new TreeCarrier();
        Check.fill(x, 0, 0, 1);
        Check.fill(x, 1, 5, 1);
        x.begin(1, false);
        Check.fill(x, 0, 0, 2);
        Check.fill(x, 0, 3, 3);
        Check.due("no entry for a later file", x.waiting(1), 2);
        Check.carry(x);
        Check.dueFile("the bytes as they are now", x, 1, 0, 1, 2);
        Check.due("the time of the entry", x.time(1, 0), 1);
        Check.dueNoFile("no entry, no file", x, 1, 3);
        Check.dueFile("no deletes", x, 1, 5, 1);
    }

    private static void filesChangeUnderWay() {
        TreeCarrier x = new TreeCarrier();
        Check.fill(x, 0, 0, 1, 2);
        x.begin(2, false);
        Check.deliver(x, 1, 1);
        Check.fill(x, 1, 0, 1, 2);
        Check.deliver(x, 1, 2);
        Check.deliver(x, 0, 3);
        Check.dueCounts("the target as it was at the end", x, 0, 1);
        Check.deliver(x, 1, 4);
        Check.dueFile("copied", x, 1, 0, 1, 2);
        Check.due("time", x.time(1, 0), 2);

        // A file that was brought and is removed from the target is brought again.
        x = new TreeCarrier();
        Check.fill(x, 0, 0, 1, 2);
        x.begin(1, false);
        Check.carry(x);
        Check.due("remove", x.remove(1, 0), true);
        x.begin(1, false);
        Check.deliver(x, 1, 1, 2, 0);
        Check.due("removed: open again", x.waiting(0), 1);
        Check.carry(x);
        Check.dueFile("brought again", x, 1, 0, 1, 2);
    }

    private static void gone() {
        TreeCarrier x = new TreeCarrier();
        Check.fill(x, 0, 2, 1);
        Check.fill(x, 0, 8, 1);
        Check.fill(x, 1, 8, 7);
        x.begin(1, true);
        Check.deliver(x, 1, 1, 1, 2);
        x.remove(0, 8);
        x.remove(0, 2);
        Check.deliver(x, 0, 3, 3);
        Check.due("next", x.next(1), Check.GONE);
        Check.due("no failure yet", x.count(Check.FAILURES), 0);
        Check.deliver(x, 1, Check.GONE);
        Check.due("one still open", x.on(), true);
        Check.deliver(x, 1, Check.GONE);
        Check.due("over", x.on(), false);
        Check.dueCounts("gone", x, 0, 0, 0, 2, 1, 0, 0, 0);
        Check.dueFile("noted, so not deleted", x, 1, 8, 7);
        Check.dueNoFile("gone", x, 1, 2);
    }

    private static void repeatsAndFailures() {
        TreeCarrier x = new TreeCarrier();
        Check.fill(x, 0, 9, 1, 2, 3, 4);
        Check.fill(x, 1, 9, 1, 2, 3, 4);
        x.begin(2, false);
        Check.deliver(x, 1, 1, 2);
        Check.deliver(x, 0, 3);
        x.set(1, 9, 3, 5);
        Check.deliver(x, 1, 4);
        Check.dueCounts("repeat", x, 0, 2, 1, 0, 0);
        Check.due("no record", x.journal(), 0);
        Check.due("waiting", x.waiting(0), 1);
        Check.deliver(x, 0, 3);
        Check.dueCounts("the file as it is now", x, 2, 3, 1, 0, 0);
        x.set(1, 9, 0, 6);
        Check.deliver(x, 1, 4);
        Check.dueCounts("failure", x, 2, 3, 1, 1, 1, 0, 0, 0);
        Check.due("no third attempt", x.waiting(0), 0);
        Check.due("over", x.on(), false);
        Check.dueFile("old", x, 1, 9, 6, 2, 3, 5);
        x.begin(2, false);
        Check.carry(x);
        Check.dueFile("the next session mends it", x, 1, 9, 1, 2, 3, 4);

        goneAfterARepeat();
    }

    private static void goneAfterARepeat() {
        TreeCarrier x = new TreeCarrier();
        Check.fill(x, 0, 0, 16);
        Check.fill(x, 1, 0, 0);
        x.begin(1, false);
        Check.deliver(x, 1, 1, 2);
        Check.deliver(x, 0, 3);
        Check.deliver(x, 1, 4);
        x.remove(0, 0);
        Check.deliver(x, 0, 3);
        Check.deliver(x, 1, 5);
        Check.dueCounts("gone after a repeat", x, 0, 1, 1, 1, 1, 0, 0, 0);
        Check.dueFile("old", x, 1, 0, 0);
    }

    private static void copyOfAShortenedFile() {
        // The file is made anew with fewer bytes: a copy takes those that are there.
        TreeCarrier x = new TreeCarrier();
        Check.fill(x, 0, 0, 1, 2, 3, 4);
        Check.fill(x, 1, 0, 1, 2, 3, 4);
        x.begin(4, false);
        Check.deliver(x, 1, 1, 2);
        Check.deliver(x, 0, 3);
        x.remove(1, 0);
        Check.fill(x, 1, 0, 1, 2, 3);
        Check.deliver(x, 1, 4);
        Check.dueCounts("shortened", x, 0, 1, 1);
        Check.deliver(x, 0, 3);
        Check.dueCounts("no full block any more", x, 4, 1, 1);
        Check.deliver(x, 1, 4);
        Check.dueFile("rebuilt", x, 1, 0, 1, 2, 3, 4);

        // And with more bytes: a copy takes the block's alone.
        x = new TreeCarrier();
        Check.fill(x, 0, 0, 1, 2);
        Check.fill(x, 1, 0, 1, 2);
        x.begin(2, false);
        Check.deliver(x, 1, 1, 2);
        Check.deliver(x, 0, 3);
        Check.fill(x, 1, 0, 9, 9);
        Check.deliver(x, 1, 4);
        Check.dueCounts("longer", x, 0, 1, 0, 0, 1);
        Check.dueFile("longer", x, 1, 0, 1, 2);
    }

    private static void journalBehindDeliveries() {
        TreeCarrier x = new TreeCarrier();
        Check.fill(x, 0, 0, 1);
        Check.fill(x, 0, 1, 2);
        Check.fill(x, 1, 0, 9);
        x.begin(1, false);
        Check.deliver(x, 1, 1, 1, 2);
        Check.deliver(x, 0, 3);
        Check.deliver(x, 1, 4);
        Check.due("in the journal", x.journal(), 1);
        Check.dueFile("old still", x, 1, 0, 9);
        Check.due("no record done", x.count(Check.DONE), 0);
        Check.due("nothing waits: does nothing", x.deliver(1), 0);
        Check.due("a wrong line: does nothing", x.deliver(2), 0);
        Check.due("in the journal still", x.journal(), 1);
        Check.deliver(x, 0, 3);
        Check.due("the sender does no record", x.journal(), 1);
        Check.deliver(x, 0, 0);
        Check.due("in the journal still", x.journal(), 1);
        x.set(1, 0, 0, 8);
        x.remove(0, 0);
        Check.deliver(x, 1, 4);
        Check.dueFile("done over a changed file", x, 1, 0, 1);
        Check.due("with the entry's time", x.time(1, 0), 1);
        Check.dueFile("done with the conclusion", x, 1, 1, 2);
        Check.due("journal", x.journal(), 0);
        Check.dueCounts("two done", x, 2, 0, 0, 0, 1, 0, 0, 2);
        recordBeforeAnyKind();
    }

    private static void recordBeforeAnyKind() {
        TreeCarrier x = new TreeCarrier();
        Check.fill(x, 0, 0, 1);
        Check.fill(x, 0, 1, 2);
        Check.fill(x, 0, 2, 2);
        x.begin(1, false);
        Check.deliver(x, 1, 1, 1, 1, 2);
        x.remove(0, 1);
        Check.deliver(x, 0, 3, 3);
        Check.deliver(x, 1, 4);
        Check.due("in the journal", x.journal(), 1);
        Check.deliver(x, 1, 5);
        Check.due("done before a gone", x.journal(), 0);
        Check.due("done before a gone", x.count(Check.DONE), 1);
        Check.due("still on", x.on(), true);
        Check.dueFile("done before a gone", x, 1, 0, 1);
    }

    private static void linesAreQueues() {
        TreeCarrier x = new TreeCarrier();
        Check.fill(x, 0, 0, 1);
        Check.fill(x, 0, 1, 16);
        Check.fill(x, 1, 1, 0);
        x.begin(1, false);
        Check.due("next", x.next(1), 1);
        Check.due("next changes nothing", x.waiting(1), 3);
        Check.deliver(x, 1, 1, 1);
        Check.due("next", x.next(1), 2);
        Check.deliver(x, 1, 2);
        Check.due("next of the empty line", x.next(1), 0);
        Check.due("next", x.next(0), 3);
        Check.due("waiting", x.waiting(0), 2);
        x.remove(0, 0);
        Check.deliver(x, 0, 3, 3);
        Check.due("waiting", x.waiting(0), 0);
        Check.due("next of the empty line", x.next(0), 0);
        Check.due("waiting", x.waiting(1), 2);
        Check.due("the oldest first", x.next(1), 5);
        Check.deliver(x, 1, 5);
        Check.due("then the younger", x.next(1), 4);
        Check.deliver(x, 1, 4);
        Check.due("a repeat", x.waiting(0), 1);
        Check.due("the line is empty", x.waiting(1), 0);
    }

    private static void crashAndReplay() {
        TreeCarrier x = new TreeCarrier();
        Check.fill(x, 0, 0, 1);
        Check.fill(x, 0, 1, 2);
        x.begin(1, false);
        Check.deliver(x, 1, 1, 1, 2);
        Check.deliver(x, 0, 3);
        Check.deliver(x, 1, 4);
        Check.due("crash", x.crash(), true);
        Check.due("over", x.on(), false);
        Check.due("not complete", x.count(Check.COMPLETE), 0);
        Check.due("waiting(0)", x.waiting(0), 0);
        Check.due("waiting(1)", x.waiting(1), 0);
        Check.due("the journal stays", x.journal(), 1);
        Check.dueNoFile("wholly old", x, 1, 0);
        Check.due("crash again", x.crash(), false);
        Check.due("deliver", x.deliver(1), 0);
        Check.due("a refused begin", x.begin(0, false), false);
        Check.due("does not replay", x.journal(), 1);
        x.rule(false, 0, 0);
        x.remove(0, 0);
        Check.due("begin", x.begin(1, true), true);
        Check.due("replayed", x.journal(), 0);
        Check.dueFile("wholly new", x, 1, 0, 1);
        Check.due("time", x.time(1, 0), 1);
        Check.due("record done", x.count(Check.DONE), 1);
        Check.due("only the end waits", x.waiting(1), 1);
        Check.carry(x);
        Check.dueFile("not selected, not deleted", x, 1, 0, 1);
        Check.dueCounts("after the crash", x, 1, 0, 0, 0, 1, 0, 0, 1);
        replayedFileIsSkipped();
    }

    private static void replayedFileIsSkipped() {
        TreeCarrier x = new TreeCarrier();
        Check.fill(x, 0, 0, 1);
        Check.fill(x, 0, 1, 2);
        x.begin(1, false);
        Check.deliver(x, 1, 1, 1, 2);
        Check.deliver(x, 0, 3);
        Check.deliver(x, 1, 4);
        x.crash();
        x.begin(1, false);
        Check.carry(x);
        Check.dueCounts("skipped after the replay", x, 2, 0, 0, 0, 1, 1, 0, 2);
    }

    private static void crashForgets() {
        TreeCarrier x = new TreeCarrier();
        Check.fill(x, 0, 0, 1);
        Check.fill(x, 0, 1, 2);
        Check.fill(x, 1, 0, 7);
        Check.fill(x, 1, 1, 7);
        x.begin(1, true);
        Check.deliver(x, 1, 1, 1, 2);
        Check.deliver(x, 0, 3);
        Check.due("crash", x.crash(), true);
        x.remove(0, 0);
        x.remove(0, 1);
        x.begin(1, true);
        Check.due("the old messages are lost", x.waiting(1), 1);
        Check.due("the old messages are lost", x.waiting(0), 0);
        Check.deliver(x, 1, 2);
        Check.due("no old entry is open", x.on(), false);
        Check.due("no old entry is noted", x.count(Check.DELETED), 2);
        Check.dueNoFile("deleted", x, 1, 0);
        Check.dueNoFile("deleted", x, 1, 1);
    }

    private static void deleting() {
        TreeCarrier x = new TreeCarrier();
        Check.fill(x, 0, 0, 1);
        for (int name = 0; name < 12; name++) {
            Check.fill(x, 1, name, 5);
        }
        x.rule(false, 1, 1);
        x.begin(1, false);
        Check.carry(x);
        Check.due("not deleted", x.count(Check.DELETED), 0);
        Check.due("not deleted", x.size(1, 2), 1);
        x.begin(1, true);
        Check.deliver(x, 1, 1);
        Check.due("not before the conclusion", x.size(1, 2), 1);
        Check.carry(x);
        Check.due("deleted", x.count(Check.DELETED), 5);
        for (int name = 0; name < 12; name++) {
            Check.due("left of " + name, x.size(1, name), name == 0 || name % 2 == 1 ? 1 : -1);
        }
        Check.fill(x, 1, 11, 6);
        Check.due("deleting leaves the clock", x.time(1, 11), 14);
        listOfTheLastSession();
    }

    private static void listOfTheLastSession() {
        TreeCarrier x = new TreeCarrier();
        Check.fill(x, 0, 0, 1);
        x.begin(1, true);
        Check.carry(x);
        x.remove(0, 0);
        x.begin(1, true);
        Check.carry(x);
        Check.dueNoFile("noted in an earlier list only", x, 1, 0);
        Check.dueCounts("deleted", x, 1, 0, 0, 0, 2, 0, 1, 1);
    }

    private static void rulesUnderWay() {
        TreeCarrier x = new TreeCarrier();
        Check.fill(x, 0, 3, 1);
        Check.fill(x, 1, 4, 5);
        Check.fill(x, 1, 5, 5);
        x.begin(1, true);
        x.rule(false, 15, 3);
        x.rule(false, 15, 4);
        Check.carry(x);
        Check.dueFile("the entry was sent already", x, 1, 3, 1);
        Check.dueFile("not selected any more", x, 1, 4, 5);
        Check.dueNoFile("selected still", x, 1, 5);
    }

    private static void wrongLinesAndKinds() {
        TreeCarrier x = new TreeCarrier();
        Check.fill(x, 0, 3, 1);
        x.begin(1, false);
        for (int line : WRONG_LINES) {
            Check.due("deliver(" + line + ")", x.deliver(line), 0);
            Check.due("waiting(" + line + ")", x.waiting(line), -1);
            Check.due("next(" + line + ")", x.next(line), 0);
        }
        Check.due("nothing was delivered", x.waiting(1), 2);
        for (int kind : new int[] {-1, 8, 9, Integer.MIN_VALUE, Integer.MAX_VALUE}) {
            Check.due("count(" + kind + ")", x.count(kind), -1);
        }
    }

    private static void allNamesManySessions() {
        TreeCarrier x = new TreeCarrier();
        for (int name = 0; name < 12; name++) {
            Check.fill(x, 0, name, name, 2);
        }
        for (int session = 1; session <= 3; session++) {
            x.begin(1, false);
            Check.due("the longest line", x.waiting(1), 13);
            for (int i = 0; i < 12; i++) {
                Check.deliver(x, 1, 1);
            }
            Check.deliver(x, 1, 2);
            Check.due("all are open", x.waiting(0), 12);
            for (int i = 0; i < 12; i++) {
                Check.deliver(x, 0, 3);
            }
            Check.due("all are answered", x.waiting(1), 12);
            Check.carry(x);
            Check.due("sessions", x.count(Check.COMPLETE), session);
            Check.due("records", x.count(Check.DONE), 12 * session);
            for (int name = 0; name < 12; name++) {
                Check.dueFile("name " + name, x, 1, name, name, 2);
                x.remove(1, name);
            }
        }
    }
}
