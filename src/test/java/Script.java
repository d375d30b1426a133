import java.util.ArrayList;
import java.util.List;

/**
 * Calls on an object of their own, written as text: 'put 0 3 97 = true; 2 * deliver 1 = 1'. What
 * stands behind '=' is the answer that is due; MIN and MAX are the outermost ints.
 */
final class Script {
    private static final int CALL_LIMIT = 512;

    private final TreeCarrier x = new TreeCarrier();
    private int calls = 0;

    /** Runs the calls and compares the answers that the text tells; answers what each one said. */
    List<String> run(String what, String text) {
        List<String> said = new ArrayList<>();
        for (String part : text.split(";")) {
            if (!part.isBlank()) {
                runPart(what, part.trim(), said);
            }
        }
        return said;
    }

    private void runPart(String what, String part, List<String> said) {
        int star = part.indexOf('*');
        int times = star < 0 ? 1 : Integer.parseInt(part.substring(0, star).trim());
        String[] sides = part.substring(star + 1).split("=");
        for (int i = 0; i < times; i++) {
            String answer = answer(sides[0].trim());
            said.add(sides[0].trim() + " = " + answer);
            if (sides.length > 1) {
                Check.dueText(what + ": call " + calls + ", " + sides[0].trim(), answer,
                        sides[1].trim());
            }
        }
    }

    /** The answers of every call that only looks, for each tree, name, place, line and kind. */
    List<String> look() {
        StringBuilder text = new StringBuilder("on; journal");
        for (int line = 0; line < 2; line++) {
            text.append("; waiting ").append(line).append("; next ").append(line);
        }
        for (int kind = 0; kind < 8; kind++) {
            text.append("; count ").append(kind);
        }
        for (int name = 0; name < 12; name++) {
            text.append("; selected ").append(name);
            lookAtFile(text, "0 " + name);
            lookAtFile(text, "1 " + name);
        }
        return run("look", text.toString());
    }

    private void lookAtFile(StringBuilder text, String file) {
        text.append("; size ").append(file).append("; time ").append(file);
        int bytes = Integer.parseInt(answer("size " + file));
        for (int place = 0; place < bytes; place++) {
            text.append("; at ").append(file).append(' ').append(place);
        }
    }

    private String answer(String call) {
        calls++;
        if (calls > CALL_LIMIT) {
            throw new IllegalStateException("more than " + CALL_LIMIT + " calls: " + call);
        }
        String[] words = call.split(" ");
        switch (words[0]) {
            case "rule":
                return "" + x.rule(truth(words[1]), number(words[2]), number(words[3]));
            case "put":
                return "" + x.put(number(words[1]), number(words[2]), number(words[3]));
            case "set":
                return "" + x.set(number(words[1]), number(words[2]), number(words[3]),
                        number(words[4]));
            case "remove":
                return "" + x.remove(number(words[1]), number(words[2]));
            case "begin":
                return "" + x.begin(number(words[1]), truth(words[2]));
            case "deliver":
                return "" + x.deliver(number(words[1]));
            case "crash":
                return "" + x.crash();
            default:
                return lookedUp(words);
        }
    }

    private String lookedUp(String[] words) {
        switch (words[0]) {
            case "on":
                return "" + x.on();
            case "size":
                return "" + x.size(number(words[1]), number(words[2]));
            case "at":
                return "" + x.at(number(words[1]), number(words[2]), number(words[3]));
            case "time":
                return "" + x.time(number(words[1]), number(words[2]));
            case "selected":
                return "" + x.selected(number(words[1]));
            case "waiting":
                return "" + x.waiting(number(words[1]));
            case "next":
                return "" + x.next(number(words[1]));
            case "journal":
                return "" + x.journal();
            case "count":
                return "" + x.count(number(words[1]));
            default:
                throw new IllegalArgumentException(words[0]);
        }
    }

    private static int number(String word) {
        if (word.equals("MIN")) {
            return Integer.MIN_VALUE;
        }
        return word.equals("MAX") ? Integer.MAX_VALUE : Integer.parseInt(word);
    }

    private static boolean truth(String word) {
        if (!word.equals("true") && !word.equals("false")) {
            throw new IllegalArgumentException(word);
        }
        return word.equals("true");
    }
}
