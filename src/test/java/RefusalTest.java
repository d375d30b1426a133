import java.util.ArrayList;
import java.util.List;

/**
 * 'A call that is refused changes nothing', and no call that only looks changes anything: behind
 * such a call every answer is what it was before, and whatever comes later answers as it does on a
 * twin that never got the call.
 */
public final class RefusalTest {
    // The names 0 and 11 stand in both trees: what falls out of one tree must not hit the other.
    private static final String FILES = "put 0 0 1; put 0 0 2; 2 * put 0 3 16; put 0 11 5; put 1 0 1;"
            + " 2 * put 1 3 0; put 1 7 9; put 1 11 5;";
    private static final String BEGUN = FILES + "begin 2 true = true;";
    private static final String ENDED = BEGUN + "3 * deliver 1 = 1; deliver 1 = 2;";
    private static final String ONE_RECORD = ENDED + "deliver 0 = 3; deliver 1 = 4; journal = 1;";

    /** A run of calls, and the calls that are refused behind it and not behind every run. */
    private record State(String name, String calls, String refused) {
    }

    private static final State[] STATES = {
        new State("a new object", "", "crash = false; deliver 0 = 0; deliver 1 = 0;"
                + " set 0 0 0 1 = false; set 1 11 0 1 = false; remove 0 0 = false;"
                + " remove 1 11 = false"),
        new State("files", FILES, "crash = false; deliver 0 = 0; deliver 1 = 0;"
                + " set 0 0 2 1 = false; set 0 0 -1 1 = false; set 0 0 0 -1 = false;"
                + " set 0 0 1 256 = false; set 1 7 1 9 = false; set 0 7 0 9 = false;"
                + " remove 0 7 = false; put 1 7 256 = false; put 1 7 -1 = false"),
        new State("a full file", FILES + "40 * put 0 5 7 = true", "put 0 5 0 = false;"
                + " put 0 5 255 = false; put 0 5 256 = false; set 0 5 40 1 = false;"
                + " set 0 5 -1 1 = false; set 1 5 0 1 = false; remove 1 5 = false"),
        new State("a full file of the target", FILES + "39 * put 1 11 7 = true",
                "put 1 11 7 = false; set 1 11 40 7 = false; set 1 11 39 256 = false"),
        new State("five rules", FILES + "5 * rule false 15 11 = true", "rule false 16 0 = false;"
                + " rule false 0 16 = false; rule true -1 0 = false"),
        new State("six rules", FILES + "5 * rule false 15 11 = true; rule true 15 15 = true",
                "rule false 0 0 = false; rule true 0 0 = false; rule false 15 15 = false"),
        new State("a session with an end only", "begin 8 false = true", "deliver 0 = 0;"
                + " begin 1 true = false; begin 8 true = false; begin 8 false = false"),
        new State("a session that has begun", BEGUN, "deliver 0 = 0; begin 1 false = false;"
                + " begin 2 true = false; begin 8 false = false; remove 0 7 = false;"
                + " set 1 7 1 1 = false"),
        new State("entries that were noted", BEGUN + "2 * deliver 1 = 1", "deliver 0 = 0;"
                + " begin 1 false = false; begin 8 true = false"),
        new State("signatures that wait", ENDED, "deliver 1 = 0; begin 1 false = false;"
                + " begin 2 false = false; begin 8 true = false"),
        new State("deltas that wait", ENDED + "3 * deliver 0 = 3", "deliver 0 = 0;"
                + " begin 1 false = false; begin 8 true = false; remove 0 7 = false"),
        new State("a gone that waits", ENDED + "remove 0 0 = true; deliver 0 = 3; next 1 = 5",
                "remove 0 0 = false; set 0 0 0 1 = false; begin 1 false = false"),
        new State("a repeat", ENDED + "deliver 0; deliver 1; deliver 0 = 3; deliver 1 = 4;"
                + " count 2 = 1", "deliver 1 = 0; begin 1 false = false; begin 8 true = false"),
        new State("a record in the journal", ONE_RECORD, "deliver 1 = 0; begin 1 false = false;"
                + " begin 2 true = false; begin 8 true = false; remove 1 1 = false"),
        new State("a crash with a record", ONE_RECORD + "crash = true", "crash = false;"
                + " deliver 0 = 0; deliver 1 = 0; set 1 1 0 1 = false; remove 1 1 = false"),
        new State("a crash before the end", BEGUN + "deliver 1 = 1; crash = true",
                "crash = false; deliver 0 = 0; deliver 1 = 0"),
        new State("a complete session", ONE_RECORD + goOn() + "on = false; count 4 = 1;"
                + " count 6 = 1", "crash = false; deliver 0 = 0; deliver 1 = 0;"
                + " remove 1 7 = false; set 1 7 0 1 = false"),
    };

    private static final String[] WRONG_TREES = {"-1", "2", "MIN", "MAX"};
    private static final String[] WRONG_NAMES = {"-1", "12", "MIN", "MAX"};
    private static final String[] WRONG_BYTES = {"-1", "256", "MIN", "MAX"};
    private static final String[] WRONG_MASKS = {"-1", "16", "MIN", "MAX"};
    private static final String[] WRONG_BLOCKS = {"0", "9", "-1", "MIN", "MAX"};
    private static final String[] WRONG_LINES = {"-1", "2", "MIN", "MAX"};
    private static final String[] WRONG_KINDS = {"-1", "8", "MIN", "MAX"};

    // What would bring a change to light that no look shows: the clock, the number of rules, the
    // messages and the list, the session's block and deletes, the journal.
    private static final String[] TAILS = {
        "put 0 9 1; time 0 9; put 1 0 2; time 1 0",
        "rule false 15 0; rule false 15 1; rule false 15 2; rule false 15 3; rule false 15 4;"
            + " rule false 15 5; rule false 15 6",
        goOn(),
        goOn() + "begin 3 true;" + goOn(),
        "crash; begin 1 true;" + goOn(),
    };

    public static void main(String[] args) {
        List<String> always = new ArrayList<>();
        addWrongChanges(always);
        addWrongLooks(always);
        for (State state : STATES) {
            for (String call : always) {
                changesNothing(state, call);
            }
            for (String call : state.refused.split(";")) {
                changesNothing(state, call.trim());
            }
            looksChangeNothing(state);
        }
        Check.finish();
    }

    /** More deliveries than any session has. */
    private static String goOn() {
        return "deliver 1; deliver 0;".repeat(26);
    }

    private static void addWrongChanges(List<String> calls) {
        for (String tree : WRONG_TREES) {
            calls.add("put " + tree + " 0 1 = false");
            calls.add("put " + tree + " 11 1 = false");
            calls.add("set " + tree + " 0 0 1 = false");
            calls.add("set " + tree + " 11 0 1 = false");
            calls.add("remove " + tree + " 0 = false");
            calls.add("remove " + tree + " 11 = false");
        }
        for (String name : WRONG_NAMES) {
            for (int tree = 0; tree < 2; tree++) {
                calls.add("put " + tree + " " + name + " 1 = false");
                calls.add("set " + tree + " " + name + " 0 1 = false");
                calls.add("remove " + tree + " " + name + " = false");
            }
        }
        for (String c : WRONG_BYTES) {
            calls.add("put 0 0 " + c + " = false");
            calls.add("put 1 8 " + c + " = false");
            calls.add("set 1 11 0 " + c + " = false");
        }
        for (String mask : WRONG_MASKS) {
            calls.add("rule false " + mask + " 0 = false");
            calls.add("rule true 0 " + mask + " = false");
        }
        for (String block : WRONG_BLOCKS) {
            calls.add("begin " + block + " false = false");
            calls.add("begin " + block + " true = false");
        }
        for (String line : WRONG_LINES) {
            calls.add("deliver " + line + " = 0");
        }
    }

    private static void addWrongLooks(List<String> calls) {
        for (String tree : WRONG_TREES) {
            calls.add("size " + tree + " 0 = -1; at " + tree + " 0 0 = -1; time " + tree
                    + " 0 = -1");
        }
        for (String name : WRONG_NAMES) {
            calls.add("size 1 " + name + " = -1; at 0 " + name + " 0 = -1; time 1 " + name
                    + " = -1; selected " + name + " = false");
        }
        for (String line : WRONG_LINES) {
            calls.add("waiting " + line + " = -1; next " + line + " = 0");
        }
        for (String kind : WRONG_KINDS) {
            calls.add("count " + kind + " = -1");
        }
        calls.add("at 0 0 40 = -1; at 1 0 -1 = -1; at 0 0 MIN = -1; at 1 0 MAX = -1");
    }

    private static void changesNothing(State state, String call) {
        String what = call + " behind " + state.name;
        Script script = after(state);
        List<String> before = script.look();
        script.run(what, call);
        same(what, before, script.look());
        for (String tail : TAILS) {
            Script twin = after(state);
            script = after(state);
            script.run(what, call);
            same(what + ", later", ranOn(twin, tail), ranOn(script, tail));
        }
    }

    private static void looksChangeNothing(State state) {
        for (String tail : TAILS) {
            Script twin = after(state);
            Script script = after(state);
            script.look();
            same("looks behind " + state.name, ranOn(twin, tail), ranOn(script, tail));
        }
    }

    private static Script after(State state) {
        Script script = new Script();
        script.run(state.name, state.calls);
        return script;
    }

    private static List<String> ranOn(Script script, String tail) {
        List<String> said = script.run("later", tail);
        said.addAll(script.look());
        return said;
    }

    private static void same(String what, List<String> due, List<String> got) {
        Check.due(what + ": number of answers", got.size(), due.size());
        for (int i = 0; i < Math.min(due.size(), got.size()); i++) {
            Check.dueText(what, got.get(i), due.get(i));
        }
    }
}
