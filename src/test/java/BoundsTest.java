/**
 * Promise by promise, each sentence that names a boundary: the last that is taken and the first
 * that is refused on each side. That a refused call changes nothing is looked at by RefusalTest.
 */
public final class BoundsTest {
    // The names 0 and 11 of both trees: the neighbours of every name that is too small or large.
    private static final String CORNERS = "put 0 0 10; put 0 11 20; put 1 0 30; put 1 11 40";
    private static final String CORNERS_STAND = "size 0 0 = 1; size 0 11 = 1; size 1 0 = 1;"
            + " size 1 11 = 1; at 0 0 0 = 10; at 0 11 0 = 20; at 1 0 0 = 30; at 1 11 0 = 40;"
            + " time 0 0 = 1; time 0 11 = 2; time 1 0 = 3; time 1 11 = 4; put 0 5 1 = true;"
            + " time 0 5 = 5";

    // Of these six bytes the digest is that of no bytes: taken away from the target between the
    // signature and the delta, they leave a target file 0 of no bytes, whose time is 6.
    private static final String FILE_OF_NO_BYTES = both(0, 255, 187, 231, 0, 0, 95)
            + "begin 6 false = true; deliver 1 = 1; deliver 1 = 2; deliver 0 = 3;"
            + " remove 1 0 = true; deliver 1 = 4; on = false";

    // Two open entries, of which the first is in the journal; line 0 has a signature, line 1 none.
    private static final String ONE_RECORD = "put 0 0 1; put 0 1 2; put 1 0 9; begin 1 false;"
            + " 2 * deliver 1 = 1; deliver 1 = 2; deliver 0 = 3; deliver 1 = 4; journal = 1";

    public static void main(String[] args) {
        newObject();
        rule();
        put();
        set();
        remove();
        fileOfNoBytes();
        begin();
        endOfTheSession();
        deliver();
        crash();
        replay();
        lookAtFiles();
        selected();
        lines();
        journal();
        count();
        skipping();
        emptySignature();
        itemsOfADelta();
        deleting();
        deletingWithNewRules();
        callLimit();
        Check.finish();
    }

    private static void due(String sentence, String... calls) {
        Script script = new Script();
        for (String part : calls) {
            script.run(sentence, part);
        }
    }

    /** Puts the same bytes into the source's and the target's file of a name. */
    private static String both(int name, int... bytes) {
        StringBuilder text = new StringBuilder();
        for (int tree = 0; tree < 2; tree++) {
            for (int c : bytes) {
                text.append("put ").append(tree).append(' ').append(name).append(' ').append(c);
                text.append(" = true;");
            }
        }
        return text.toString();
    }

    private static void newObject() {
        due("1: two empty trees", "size 0 0 = -1; size 0 11 = -1; size 1 0 = -1; size 1 11 = -1");
        due("1: no rules", "selected 0 = true; selected 11 = true; 6 * rule false 0 0 = true");
        due("1: an empty journal", "journal = 0; begin 1 false = true; journal = 0; count 7 = 0");
        due("1: no session", "on = false; crash = false; waiting 0 = 0; waiting 1 = 0");
        due("the clock is 0 at first: put", "put 1 11 0 = true; time 1 11 = 1");
        due("the clock is 0 at first: set", "put 0 0 0; set 0 0 0 0 = true; time 0 0 = 2");
        due("the clock is 0 at first: remove",
                "put 0 0 0; remove 0 0 = true; put 0 0 0; time 0 0 = 3");
    }

    private static void rule() {
        due("2: mask 0 .. 15", "rule true -1 0 = false; rule true 16 0 = false;"
                + " rule true MIN 0 = false; rule true MAX 0 = false; rule true -16 0 = false;"
                + " rule true 31 15 = false; rule true 0 0 = true; rule true 15 0 = true");
        due("2: value 0 .. 15", "rule true 0 -1 = false; rule true 0 16 = false;"
                + " rule true 0 MIN = false; rule true 0 MAX = false; rule true 15 -1 = false;"
                + " rule true 15 31 = false; rule true 0 0 = true; rule true 15 15 = true");
        due("2: both too small or too large", "rule true -1 -1 = false; rule true 16 16 = false;"
                + " rule true -1 16 = false; rule true 16 -1 = false; 6 * rule true 15 15 = true;"
                + " rule true 15 15 = false");
        due("2: or there are 6", "5 * rule false 15 11 = true; rule false 15 0 = true;"
                + " rule false 15 1 = false; rule true 0 0 = false; selected 11 = false;"
                + " selected 0 = false; selected 1 = true");
        due("2: also one that no name fits", "rule false 15 12 = true; rule false 15 15 = true;"
                + " rule false 0 1 = true; rule false 8 7 = true; rule false 12 12 = true;"
                + " selected 0 = true; selected 7 = true; selected 8 = true; selected 11 = true;"
                + " rule false 15 11 = true; selected 11 = false; rule false 15 0 = false");
        due("2: behind those there are", "rule true 15 11 = true; rule false 8 8 = true;"
                + " rule true 15 10 = true; selected 11 = true; selected 10 = false");
        due("2: wrong and there are 6", "6 * rule true 0 0 = true; rule true 16 0 = false;"
                + " rule true 0 -1 = false");
        due("2: a session does not hinder", "begin 1 false = true; 6 * rule false 15 15 = true;"
                + " rule false 15 15 = false");
    }

    private static void put() {
        due("3: tree 0 or 1", CORNERS, "put -1 0 1 = false; put 2 0 1 = false; put -1 11 1 = false;"
                + " put 2 11 1 = false; put MIN 0 1 = false; put MAX 0 1 = false", CORNERS_STAND);
        due("3: name 0 .. 11", CORNERS, "put 0 -1 1 = false; put 0 12 1 = false;"
                + " put 1 -1 1 = false; put 1 12 1 = false; put 0 MIN 1 = false;"
                + " put 1 MAX 1 = false; put 0 23 1 = false; put 1 -12 1 = false", CORNERS_STAND);
        due("3: c 0 .. 255", CORNERS, "put 0 0 -1 = false; put 0 0 256 = false;"
                + " put 1 11 -1 = false; put 1 11 256 = false; put 0 0 MIN = false;"
                + " put 0 0 MAX = false; put 1 0 -256 = false; put 1 0 511 = false", CORNERS_STAND);
        due("3: a refused c makes no file", "put 0 3 256 = false; put 1 3 -1 = false;"
                + " size 0 3 = -1; size 1 3 = -1; time 0 3 = -1; remove 0 3 = false");
        due("3: the last values", "put 0 0 0 = true; put 1 11 255 = true; at 0 0 0 = 0;"
                + " at 1 11 0 = 255; put 0 0 255 = true; at 0 0 1 = 255");
        for (int tree = 0; tree < 2; tree++) {
            due("3: 40 bytes are there", ("39 * put T 0 7 = true; size T 0 = 39;"
                    + " put T 0 8 = true; size T 0 = 40; at T 0 38 = 7; at T 0 39 = 8;"
                    + " time T 0 = 40; put T 0 9 = false; put T 0 0 = false; put T 0 256 = false;"
                    + " size T 0 = 40; at T 0 39 = 8; at T 0 40 = -1; time T 0 = 40;"
                    + " put T 1 9 = true; time T 1 = 41").replace("T", "" + tree));
        }
        due("3: a full file that is removed is new", "40 * put 1 4 7 = true; remove 1 4 = true;"
                + " put 1 4 8 = true; size 1 4 = 1; at 1 4 0 = 8; at 1 4 1 = -1;"
                + " 39 * put 1 4 9 = true; put 1 4 9 = false");
    }

    private static void set() {
        due("4: no such file, tree", CORNERS, "set -1 0 0 1 = false; set 2 0 0 1 = false;"
                + " set -1 11 0 1 = false; set 2 11 0 1 = false; set MIN 0 0 1 = false;"
                + " set MAX 0 0 1 = false", CORNERS_STAND);
        due("4: no such file, name", CORNERS, "set 0 -1 0 1 = false; set 0 12 0 1 = false;"
                + " set 1 -1 0 1 = false; set 1 12 0 1 = false; set 0 MIN 0 1 = false;"
                + " set 1 MAX 0 1 = false; set 0 1 0 1 = false; set 1 10 0 1 = false;"
                + " size 0 1 = -1; size 1 10 = -1", CORNERS_STAND);
        due("4: no such place", CORNERS, "set 0 0 -1 1 = false; set 0 0 1 1 = false;"
                + " set 1 11 -1 1 = false; set 1 11 1 1 = false; set 0 0 MIN 1 = false;"
                + " set 0 0 MAX 1 = false; set 0 0 39 1 = false; set 0 0 40 1 = false",
                CORNERS_STAND);
        due("4: c 0 .. 255", CORNERS, "set 0 0 0 -1 = false; set 0 0 0 256 = false;"
                + " set 1 11 0 -1 = false; set 1 11 0 256 = false; set 0 0 0 MIN = false;"
                + " set 0 0 0 MAX = false", CORNERS_STAND);
        due("4: the last values", CORNERS, "set 0 0 0 0 = true; at 0 0 0 = 0; time 0 0 = 5;"
                + " set 1 11 0 255 = true; at 1 11 0 = 255; time 1 11 = 6");
        due("4: the places of a full file", "40 * put 1 2 5 = true; set 1 2 0 6 = true;"
                + " set 1 2 39 7 = true; set 1 2 40 8 = false; set 1 2 -1 8 = false;"
                + " at 1 2 0 = 6; at 1 2 1 = 5; at 1 2 38 = 5; at 1 2 39 = 7; size 1 2 = 40;"
                + " time 1 2 = 42");
        due("4: also the same one", "put 0 5 9; set 0 5 0 9 = true; at 0 5 0 = 9; time 0 5 = 2");
        due("4: no place of the file that was there before",
                "3 * put 0 5 9; remove 0 5 = true; set 0 5 0 1 = false; put 0 5 8 = true;"
                + " set 0 5 1 1 = false; set 0 5 0 1 = true; size 0 5 = 1");
    }

    private static void remove() {
        due("5: no such tree", CORNERS, "remove -1 0 = false; remove 2 0 = false;"
                + " remove -1 11 = false; remove 2 11 = false; remove MIN 0 = false;"
                + " remove MAX 0 = false", CORNERS_STAND);
        due("5: no such name", CORNERS, "remove 0 -1 = false; remove 0 12 = false;"
                + " remove 1 -1 = false; remove 1 12 = false; remove 0 MIN = false;"
                + " remove 1 MAX = false; remove 0 1 = false; remove 1 10 = false", CORNERS_STAND);
        due("5: the last names", CORNERS, "remove 0 0 = true; remove 0 11 = true;"
                + " remove 1 0 = true; remove 1 11 = true; size 0 0 = -1; size 0 11 = -1;"
                + " size 1 0 = -1; size 1 11 = -1; remove 0 0 = false; remove 0 11 = false;"
                + " remove 1 0 = false; remove 1 11 = false; put 0 0 1; time 0 0 = 9");
        due("5: also while a session is on", "put 0 3 1; put 1 3 2; begin 1 false = true;"
                + " put 0 3 4 = true; set 1 3 0 5 = true; remove 0 3 = true; remove 1 3 = true;"
                + " remove 0 3 = false; put 1 4 1 = true; time 1 4 = 7; on = true;"
                + " waiting 1 = 2");
    }

    private static void fileOfNoBytes() {
        due("0 .. 40 bytes: none", FILE_OF_NO_BYTES,
                "size 1 0 = 0; at 1 0 0 = -1; at 1 0 -1 = -1; time 1 0 = 6; set 1 0 0 1 = false;"
                + " time 1 0 = 6; count 7 = 1; count 3 = 0");
        due("a file of no bytes is removed", FILE_OF_NO_BYTES,
                "remove 1 0 = true; size 1 0 = -1; time 1 0 = -1; remove 1 0 = false;"
                + " put 1 0 3; time 1 0 = 15");
        due("a file of no bytes is put to", FILE_OF_NO_BYTES,
                "40 * put 1 0 3 = true; put 1 0 3 = false; size 1 0 = 40; time 1 0 = 53");
        due("a file of no bytes is deleted", FILE_OF_NO_BYTES,
                "remove 0 0 = true; begin 1 true = true; deliver 1 = 2; count 6 = 1;"
                + " size 1 0 = -1; time 1 0 = -1");
        due("a file of no bytes is not of the entry's size", FILE_OF_NO_BYTES,
                "begin 1 false = true; deliver 1 = 1; deliver 1 = 2; count 5 = 0; deliver 0 = 3;"
                + " count 0 = 6; count 1 = 1; deliver 1 = 4; size 1 0 = 6; time 1 0 = 6");
    }

    private static void begin() {
        due("6: block 1 .. 8, too small", "begin 0 false = false; begin 0 true = false;"
                + " begin -1 false = false; begin MIN true = false; on = false; waiting 1 = 0");
        due("6: block 1 .. 8, too large", "begin 9 false = false; begin 9 true = false;"
                + " begin 16 false = false; begin MAX true = false; on = false; waiting 1 = 0");
        for (int block = 1; block <= 8; block++) {
            due("6: block " + block, "begin B true = true".replace("B", "" + block),
                    "on = true; waiting 1 = 1; deliver 1 = 2; on = false",
                    "begin B false = true; on = true".replace("B", "" + block));
        }
        due("6: one is on", "put 0 0 1; begin 1 true = true; begin 1 true = false;"
                + " begin 8 false = false; begin 0 true = false; waiting 1 = 2; deliver 1 = 1;"
                + " begin 2 true = false; deliver 1 = 2; begin 2 true = false; waiting 1 = 0;"
                + " deliver 0 = 3; begin 2 true = false; on = true; deliver 1 = 4; on = false;"
                + " begin 2 true = true");
        due("6: one is on no more after a crash",
                "begin 8 true = true; begin 8 true = false; crash = true; begin 8 true = true");
        due("block 1 is used", both(0, 3, 9), "begin 1 false; 2 * deliver 1; deliver 0 = 3;"
                + " count 0 = 0; count 1 = 2");
        due("block 8 is used", both(0, 3, 9, 1, 4, 8, 7, 2, 6, 5), "begin 8 false; 2 * deliver 1;"
                + " deliver 0 = 3; count 0 = 1; count 1 = 1");
        due("a session's block is its own", both(0, 3, 9), "begin 8 false; 2 * deliver 1;"
                + " deliver 0 = 3; count 0 = 2; count 1 = 0; crash = true; begin 2 false;"
                + " 2 * deliver 1; deliver 0 = 3; count 0 = 2; count 1 = 1");
    }

    private static void endOfTheSession() {
        due("6: not over before an END, with empty trees", "begin 1 true = true; on = true;"
                + " waiting 0 = 0; waiting 1 = 1; next 1 = 2; deliver 0 = 0; on = true;"
                + " count 4 = 0; deliver 1 = 2; on = false; count 4 = 1; deliver 1 = 0");
        due("6: not over before an END, with nothing selected", "put 0 4 1; put 1 5 1;"
                + " rule false 0 0 = true; begin 1 true = true; on = true; waiting 1 = 1;"
                + " next 1 = 2; deliver 1 = 2; on = false; count 4 = 1; count 6 = 0; count 5 = 0;"
                + " size 1 4 = -1; size 1 5 = 1");
        due("6: not over before an END, with all to be skipped", "put 0 4 1; begin 1 false;"
                + " 2 * deliver 1; deliver 0; deliver 1 = 4; on = false; begin 1 false = true;"
                + " deliver 1 = 1; on = true; count 5 = 0; count 4 = 1; deliver 1 = 2; on = false;"
                + " count 5 = 1; count 4 = 2");
        due("concludes with the last open entry only", "put 0 0 1; put 0 11 1; begin 1 false;"
                + " 2 * deliver 1 = 1; deliver 1 = 2; 2 * deliver 0 = 3; deliver 1 = 4; on = true;"
                + " count 4 = 0; deliver 1 = 4; on = false; count 4 = 1");
    }

    private static void deliver() {
        due("7: line 0 or 1", "put 0 0 1; begin 1 false; deliver -1 = 0; deliver 2 = 0;"
                + " deliver MIN = 0; deliver MAX = 0; waiting 0 = 0; waiting 1 = 2; next 1 = 1;"
                + " deliver 1 = 1; deliver 1 = 2; deliver -1 = 0; deliver 2 = 0; waiting 0 = 1;"
                + " deliver 0 = 3");
        due("7: none waits there, no session", "deliver 0 = 0; deliver 1 = 0; on = false");
        due("7: none waits there, in a session", "begin 1 false; deliver 0 = 0; waiting 1 = 1;"
                + " deliver 1 = 2; deliver 1 = 0; deliver 0 = 0; count 4 = 1");
        due("7: none waits: the oldest record is not done", ONE_RECORD, "waiting 1 = 0;"
                + " deliver 1 = 0; journal = 1; count 7 = 0; at 1 0 0 = 9; deliver 2 = 0;"
                + " deliver -1 = 0; journal = 1; count 7 = 0; at 1 0 0 = 9; on = true");
        due("7: to the sender no record is done", ONE_RECORD, "deliver 0 = 3; journal = 1;"
                + " count 7 = 0; deliver 0 = 0; journal = 1; at 1 0 0 = 9");
        due("7: to the receiver the record is done first", ONE_RECORD, "deliver 0 = 3;"
                + " remove 1 0 = true; deliver 1 = 4; at 1 0 0 = 1; time 1 0 = 1; count 7 = 2");
        due("7: if there is one", "put 0 0 1; begin 1 false; deliver 1 = 1; count 7 = 0;"
                + " deliver 1 = 2; count 7 = 0; journal = 0");
    }

    private static void crash() {
        due("8: no session is on, new", "crash = false; crash = false; on = false; count 4 = 0");
        due("8: no session is on, after a crash", "begin 1 false; crash = true; on = false;"
                + " crash = false; waiting 1 = 0; count 4 = 0");
        due("8: no session is on, after a complete one",
                "begin 1 false; deliver 1 = 2; crash = false; count 4 = 1");
        due("8: no session is on, after a refused begin", "begin 9 false = false; crash = false");
        due("8: the journal stays", ONE_RECORD, "crash = true; journal = 1; crash = false;"
                + " journal = 1; count 7 = 0; at 1 0 0 = 9; time 1 0 = 3; deliver 1 = 0;"
                + " deliver 0 = 0; journal = 1");
        due("8: an empty journal stays", "put 0 0 1; begin 1 false; 2 * deliver 1; deliver 0 = 3;"
                + " crash = true; journal = 0; waiting 0 = 0; waiting 1 = 0; size 1 0 = -1");
    }

    private static void replay() {
        due("a refused begin does not replay", ONE_RECORD, "begin 1 false = false; journal = 1;"
                + " crash = true; begin 0 true = false; begin 9 true = false; journal = 1;"
                + " count 7 = 0; at 1 0 0 = 9; begin 8 true = true; journal = 0; count 7 = 1;"
                + " at 1 0 0 = 1; time 1 0 = 1; size 1 0 = 1");
        due("a record is made a file, if there is none", ONE_RECORD, "crash = true;"
                + " remove 1 0 = true; begin 1 false = true; at 1 0 0 = 1; time 1 0 = 1");
        due("a record takes the place of a full file", ONE_RECORD, "crash = true;"
                + " 39 * put 1 0 5 = true; put 1 0 5 = false; begin 1 false = true; size 1 0 = 1;"
                + " at 1 0 0 = 1; at 1 0 1 = -1; time 1 0 = 1; put 1 0 6 = true; time 1 0 = 43");
        due("a record of 40 bytes", "put 0 1 2; 40 * put 0 0 5; begin 1 false; 2 * deliver 1 = 1;"
                + " deliver 1 = 2; deliver 0 = 3; deliver 1 = 4; crash = true; size 1 0 = -1;"
                + " begin 1 false; size 1 0 = 40; at 1 0 39 = 5; time 1 0 = 41; put 1 0 1 = false");
    }

    private static void lookAtFiles() {
        due("10: there is none", CORNERS, "size -1 0 = -1; size 2 0 = -1; size -1 11 = -1;"
                + " size 2 11 = -1; size 0 -1 = -1; size 0 12 = -1; size 1 -1 = -1; size 1 12 = -1;"
                + " size MIN 0 = -1; size MAX 0 = -1; size 0 MIN = -1; size 1 MAX = -1;"
                + " size 0 1 = -1; size 1 10 = -1", CORNERS_STAND);
        due("11: there is none", CORNERS, "at -1 0 0 = -1; at 2 0 0 = -1; at -1 11 0 = -1;"
                + " at 2 11 0 = -1; at 0 -1 0 = -1; at 0 12 0 = -1; at 1 -1 0 = -1;"
                + " at 1 12 0 = -1; at MIN 0 0 = -1; at MAX 0 0 = -1; at 0 MIN 0 = -1;"
                + " at 1 MAX 0 = -1; at 0 1 0 = -1; at 1 10 0 = -1", CORNERS_STAND);
        due("11: no such place", CORNERS, "at 0 0 -1 = -1; at 0 0 1 = -1; at 1 11 -1 = -1;"
                + " at 1 11 1 = -1; at 0 0 MIN = -1; at 0 0 MAX = -1; at 0 11 40 = -1",
                CORNERS_STAND);
        due("11: the places of a full file", "put 1 11 1; 38 * put 1 11 2; put 1 11 3;"
                + " at 1 11 -1 = -1; at 1 11 0 = 1; at 1 11 1 = 2; at 1 11 38 = 2; at 1 11 39 = 3;"
                + " at 1 11 40 = -1");
        due("12: there is none", CORNERS, "time -1 0 = -1; time 2 0 = -1; time -1 11 = -1;"
                + " time 2 11 = -1; time 0 -1 = -1; time 0 12 = -1; time 1 -1 = -1;"
                + " time 1 12 = -1; time MIN 0 = -1; time MAX 0 = -1; time 0 MIN = -1;"
                + " time 1 MAX = -1; time 0 1 = -1; time 1 10 = -1", CORNERS_STAND);
        due("10 to 12: none any more", "put 0 0 1; remove 0 0; size 0 0 = -1; at 0 0 0 = -1;"
                + " time 0 0 = -1");
    }

    private static void selected() {
        due("13: name 0 .. 11, without rules", "selected -1 = false; selected 12 = false;"
                + " selected 15 = false; selected 16 = false; selected MIN = false;"
                + " selected MAX = false; selected 0 = true; selected 11 = true");
        due("13: name 0 .. 11, all included", "rule true 0 0 = true; selected -1 = false;"
                + " selected 12 = false; selected MIN = false; selected MAX = false;"
                + " selected 0 = true; selected 11 = true");
        due("13: name 0 .. 11, included by value", "rule true 15 12 = true; rule true 15 15 = true;"
                + " selected 12 = false; selected -1 = false; selected 15 = false");
        due("13: the last rule decides", "5 * rule true 15 15 = true; rule false 15 11 = true;"
                + " selected 11 = false; selected 10 = true");
        due("13: all of mask 15 counts", "rule false 15 3 = true; selected 3 = false;"
                + " selected 11 = true; selected 7 = true; selected 1 = true; selected 2 = true");
    }

    private static void lines() {
        due("14: line 0 or 1", "waiting 0 = 0; waiting 1 = 0; waiting -1 = -1; waiting 2 = -1;"
                + " waiting MIN = -1; waiting MAX = -1; begin 1 false; waiting -1 = -1;"
                + " waiting 2 = -1; waiting 1 = 1; waiting 0 = 0");
        due("15: line 0 or 1", "next -1 = 0; next 2 = 0; next MIN = 0; next MAX = 0;"
                + " begin 1 false; next -1 = 0; next 2 = 0; next 1 = 2; waiting 1 = 1");
        due("15: none waits", "next 0 = 0; next 1 = 0; put 0 0 1; begin 1 false; next 0 = 0;"
                + " 2 * deliver 1; next 1 = 0; next 0 = 3; crash; next 0 = 0; next 1 = 0");
        due("14, 15: after the conclusion", "begin 1 false; deliver 1 = 2; waiting 0 = 0;"
                + " waiting 1 = 0; next 0 = 0; next 1 = 0");
        StringBuilder all = new StringBuilder();
        for (int name = 0; name < 12; name++) {
            all.append("put 0 ").append(name).append(" 7;");
        }
        due("14: twelve entries and an end, twelve signatures, twelve deltas", all.toString(),
                "begin 1 false; waiting 1 = 13; 12 * deliver 1 = 1; waiting 1 = 1; next 1 = 2;"
                + " waiting 0 = 0; deliver 1 = 2; waiting 1 = 0; waiting 0 = 12; 12 * deliver 0 = 3;"
                + " waiting 0 = 0; deliver 0 = 0; waiting 1 = 12; 11 * deliver 1 = 4; on = true;"
                + " waiting 1 = 1; deliver 1 = 4; on = false; waiting 1 = 0; size 1 0 = 1;"
                + " size 1 11 = 1; count 7 = 12");
    }

    private static void journal() {
        due("16: the first and the second record", "journal = 0", ONE_RECORD, "deliver 0 = 3;"
                + " journal = 1; deliver 1 = 4; journal = 0; count 7 = 2");
        due("16: a failure brings no record", "put 0 0 1; put 0 1 1; begin 1 false;"
                + " 3 * deliver 1; remove 0 0; deliver 0 = 3; deliver 1 = 5; journal = 0;"
                + " count 3 = 1; on = true");
        due("16: a repeat brings no record", "put 0 0 16; put 1 0 0; begin 1 false;"
                + " 2 * deliver 1; deliver 0; deliver 1 = 4; journal = 0; count 2 = 1; on = true");
    }

    private static void count() {
        due("17: another kind", "count -1 = -1; count 8 = -1; count 9 = -1; count MIN = -1;"
                + " count MAX = -1; count 0 = 0; count 7 = 0");
        due("17: the last kinds", "put 0 0 1; begin 1 false; 2 * deliver 1; deliver 0;"
                + " count 0 = 1; deliver 1; count 7 = 1; count 8 = -1; count -1 = -1");
        due("17: so far, over sessions and crashes", ONE_RECORD, "count 0 = 1; crash; count 0 = 1;"
                + " begin 1 true; count 0 = 1; count 7 = 1; 3 * deliver 1; count 5 = 1;"
                + " deliver 0 = 3; count 0 = 2; deliver 1 = 4; count 4 = 1; count 7 = 2;"
                + " remove 0 0; remove 0 1; begin 1 true; deliver 1 = 2; count 6 = 2; count 4 = 2;"
                + " count 0 = 2; count 5 = 1; count 7 = 2; count 3 = 0; count 2 = 0; count 1 = 0");
    }

    private static void skipping() {
        String carried = "put 0 0 1; put 0 0 2; begin 1 false; 2 * deliver 1; deliver 0;"
                + " deliver 1 = 4; on = false; count 0 = 2; time 1 0 = 2;";
        due("skipped with that size and time", carried, "begin 1 false; deliver 1 = 1;"
                + " deliver 1 = 2; count 5 = 1; on = false");
        due("not skipped with another time of the target", carried, "set 1 0 1 2 = true;"
                + " begin 1 false; deliver 1 = 1; deliver 1 = 2; count 5 = 0; waiting 0 = 1");
        due("not skipped with another time of the source", carried, "set 0 0 1 2 = true;"
                + " begin 1 false; deliver 1 = 1; deliver 1 = 2; count 5 = 0; waiting 0 = 1");
        due("not skipped without a file of the target", carried, "remove 1 0 = true;"
                + " begin 1 false; deliver 1 = 1; deliver 1 = 2; count 5 = 0; waiting 0 = 1");
        due("skipped as the source was at the beginning", carried, "begin 1 false;"
                + " put 0 0 3 = true; deliver 1 = 1; deliver 1 = 2; count 5 = 1; on = false;"
                + " size 1 0 = 2");
    }

    private static void emptySignature() {
        due("an empty one, if there is none", "put 0 0 0; put 0 0 255; begin 1 false;"
                + " 2 * deliver 1; deliver 0 = 3; count 0 = 2; count 1 = 0; deliver 1 = 4;"
                + " at 1 0 0 = 0; at 1 0 1 = 255; size 1 0 = 2");
        due("an empty one, if there is none any more", both(0, 5, 6), "begin 1 false;"
                + " deliver 1 = 1; remove 1 0; deliver 1 = 2; deliver 0 = 3; count 0 = 2;"
                + " count 1 = 0");
        due("an empty one with the repeat, if there is none then", both(0, 5, 6), "begin 1 false;"
                + " 2 * deliver 1; deliver 0 = 3; count 1 = 2; remove 1 0; deliver 1 = 4;"
                + " count 2 = 1; deliver 0 = 3; count 0 = 2; count 1 = 2; deliver 1 = 4;"
                + " size 1 0 = 2; at 1 0 1 = 6; time 1 0 = 2");
        due("no bytes of a copy, if there is no such file", both(0, 5, 6), "begin 2 false;"
                + " 2 * deliver 1; deliver 0 = 3; count 1 = 1; remove 1 0; deliver 1 = 4;"
                + " count 2 = 1; count 7 = 0; journal = 0; size 1 0 = -1");
    }

    private static void itemsOfADelta() {
        due("a literal 0 and a literal 255", "put 0 0 255; put 0 0 0; put 1 0 1; begin 1 false;"
                + " 2 * deliver 1; deliver 0 = 3; count 0 = 2; count 1 = 0; deliver 1 = 4;"
                + " at 1 0 0 = 255; at 1 0 1 = 0; size 1 0 = 2; count 2 = 0");
        due("a copy of block 39", "39 * put 1 0 4; put 1 0 9; put 0 0 9; begin 1 false;"
                + " 2 * deliver 1; deliver 0 = 3; count 1 = 1; count 0 = 0; deliver 1 = 4;"
                + " size 1 0 = 1; at 1 0 0 = 9; count 2 = 0");
        due("a copy of the last block of 8", "32 * put 1 0 4; 8 * put 1 0 9; 8 * put 0 0 9;"
                + " begin 8 false; 2 * deliver 1; deliver 0 = 3; count 1 = 1; count 0 = 0;"
                + " deliver 1 = 4; size 1 0 = 8; at 1 0 7 = 9; count 2 = 0");
        due("forty copies of block 0", "put 1 0 9; 40 * put 0 0 9; begin 1 false; 2 * deliver 1;"
                + " deliver 0 = 3; count 1 = 40; deliver 1 = 4; size 1 0 = 40; at 1 0 39 = 9;"
                + " time 1 0 = 41");
        due("forty literals", "40 * put 0 0 9; begin 8 false; 2 * deliver 1; deliver 0 = 3;"
                + " count 0 = 40; count 1 = 0; deliver 1 = 4; size 1 0 = 40; at 1 0 39 = 9");
    }

    private static void deleting() {
        due("deleted: the names 0 and 11", "put 1 0 1; put 1 11 1; begin 1 true; deliver 1 = 2;"
                + " count 6 = 2; size 1 0 = -1; size 1 11 = -1");
        due("not deleted: the source's files", "put 0 0 1; put 0 11 1; rule false 15 11;"
                + " begin 1 true; 2 * deliver 1; deliver 0; deliver 1 = 4; size 0 0 = 1;"
                + " size 0 11 = 1; count 6 = 0");
        due("not deleted: names that are not selected", "put 1 0 1; put 1 11 1; rule false 15 11;"
                + " begin 1 true; deliver 1 = 2; count 6 = 1; size 1 0 = -1; size 1 11 = 1");
        due("not deleted: a noted name that failed", "put 0 3 1; put 1 3 2; begin 1 true;"
                + " 2 * deliver 1; remove 0 3; deliver 0; deliver 1 = 5; count 6 = 0;"
                + " size 1 3 = 1; count 3 = 1; count 4 = 1");
        due("not deleted: without deletes", "put 1 0 1; begin 1 false; deliver 1 = 2; count 6 = 0;"
                + " size 1 0 = 1");
        due("not deleted: by a crash", "put 1 0 1; begin 1 true; crash = true; count 6 = 0;"
                + " size 1 0 = 1");
        due("deleted: a file that came under way", "put 0 3 1; begin 1 true; deliver 1 = 1;"
                + " put 1 4 1; deliver 1 = 2; deliver 0; deliver 1 = 4; count 6 = 1;"
                + " size 1 4 = -1; size 1 3 = 1");
    }

    private static void deletingWithNewRules() {
        due("selected at the conclusion: a rule just before it", "put 0 3 1; put 1 4 1; put 1 5 1;"
                + " begin 1 true; 2 * deliver 1; deliver 0 = 3; selected 4 = true;"
                + " rule false 15 4 = true; selected 4 = false; deliver 1 = 4; on = false;"
                + " count 6 = 1; size 1 4 = 1; size 1 5 = -1");
        due("selected at the conclusion: a rule before the end", "put 1 4 1; begin 1 true;"
                + " rule false 0 0 = true; deliver 1 = 2; count 4 = 1; count 6 = 0; size 1 4 = 1");
        due("selected at the conclusion: a rule behind one that fits", "rule true 15 4 = true;"
                + " put 1 4 1; put 1 5 1; begin 1 true; rule false 0 0 = true; deliver 1 = 2;"
                + " count 6 = 1; size 1 4 = -1; size 1 5 = 1");
        due("selected at the conclusion: a rule after it", "put 1 4 1; begin 1 true;"
                + " deliver 1 = 2; rule false 0 0 = true; count 6 = 1; size 1 4 = -1");
        due("a noted name that is selected no more is carried, not deleted", "put 0 3 1;"
                + " put 1 3 2; begin 1 true; rule false 0 0 = true; 2 * deliver 1; deliver 0 = 3;"
                + " deliver 1 = 4; count 6 = 0; at 1 3 0 = 1; time 1 3 = 1");
    }

    private static void callLimit() {
        StringBuilder full = new StringBuilder();
        for (int name = 0; name < 12; name++) {
            full.append("40 * put 0 ").append(name).append(" 7 = true;");
        }
        due("512 calls: a full tree", full.toString(), "begin 8 false = true;"
                + " 12 * deliver 1 = 1; deliver 1 = 2; 12 * deliver 0 = 3; 5 * deliver 1 = 4;"
                + " time 1 3 = 160");
        due("512 calls: the clock", full.toString(), "31 * set 0 11 39 8 = true; time 0 11 = 511");
        due("512 calls: sessions", "begin 1 true = true; deliver 1 = 2;".repeat(255),
                "count 4 = 255; begin 8 false = true");
    }
}
