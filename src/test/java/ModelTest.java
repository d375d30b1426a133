import java.util.ArrayList;
import java.util.List;
import java.util.Random;

/** Runs of as many calls as the document allows, each answer compared with the model's. */
public final class ModelTest {
    private static final int RUNS = 20000;
    private static final int CALLS = 512;
    private static final int[] EDGES = {-1, 0, 1, 2, 5, 6, 7, 8, 9, 11, 12, 13, 15, 16, 39, 40, 41,
        255, 256, Integer.MIN_VALUE, Integer.MAX_VALUE};

    private final Random random;
    private final TreeCarrier real = new TreeCarrier();
    private final Model model = new Model();
    private final List<String> calls = new ArrayList<>();
    // Few names and few bytes make the sums and the times meet.
    private final int names;
    private final int step;
    private final int letters;
    private final int changes;

    private ModelTest(long seed) {
        random = new Random(seed);
        names = 1 + random.nextInt(12);
        step = new int[] {1, 4, 16, 24, 85}[random.nextInt(5)];
        letters = 1 + random.nextInt(5);
        changes = 1 + random.nextInt(12);
    }

    public static void main(String[] args) {
        int[] seen = new int[8];
        for (int seed = 0; seed < RUNS; seed++) {
            ModelTest test = new ModelTest(seed);
            if (!test.run()) {
                System.out.println("seed " + seed + " after " + test.calls.size() + " calls: "
                        + test.calls.subList(Math.max(0, test.calls.size() - 12),
                                test.calls.size()));
                System.exit(1);
            }
            for (int kind = 0; kind < 8; kind++) {
                seen[kind] += test.model.count(kind);
            }
        }
        for (int kind = 0; kind < 8; kind++) {
            if (seen[kind] < 100) {
                System.out.println("the runs count too few of kind " + kind + ": " + seen[kind]);
                System.exit(1);
            }
        }
    }

    private boolean run() {
        for (int i = 0; i < CALLS; i++) {
            if (!(i < 60 ? fill() : random.nextInt(3) == 0 ? look() : call())) {
                return false;
            }
        }
        return true;
    }

    private boolean said(String call, int got, int want) {
        calls.add(call + " = " + got + (got == want ? "" : ", due is " + want));
        return got == want;
    }

    private boolean said(String call, boolean got, boolean want) {
        return said(call, got ? 1 : 0, want ? 1 : 0);
    }

    private int number(int usual) {
        return random.nextInt(40) == 0 ? EDGES[random.nextInt(EDGES.length)] : usual;
    }

    private int name() {
        return number(random.nextInt(names));
    }

    private int letter() {
        return number(random.nextInt(letters) * step % 256);
    }

    private int tree() {
        return number(random.nextInt(2));
    }

    private boolean fill() {
        return random.nextInt(30) == 0 ? rule() : put();
    }

    private boolean call() {
        int dice = random.nextInt(40 + changes);
        if (dice >= 40) {
            return change();
        }
        if (dice == 0 && random.nextInt(3) == 0) {
            return said("crash", real.crash(), model.crash());
        }
        if (dice < 4 || !model.on()) {
            int block = number(1 + random.nextInt(8));
            boolean deletes = random.nextInt(3) == 0;
            return said("begin(" + block + ", " + deletes + ")", real.begin(block, deletes),
                    model.begin(block, deletes));
        }
        int line = number(random.nextInt(2));
        return said("deliver(" + line + ")", real.deliver(line), model.deliver(line));
    }

    private boolean change() {
        int dice = random.nextInt(20);
        if (dice == 0) {
            return rule();
        }
        if (dice < 3) {
            int tree = tree();
            int name = name();
            return said("remove(" + tree + ", " + name + ")", real.remove(tree, name),
                    model.remove(tree, name));
        }
        return dice < 10 ? set() : put();
    }

    private boolean rule() {
        boolean include = random.nextBoolean();
        int mask = number(random.nextInt(16));
        int value = number(random.nextInt(16) & mask);
        return said("rule(" + include + ", " + mask + ", " + value + ")",
                real.rule(include, mask, value), model.rule(include, mask, value));
    }

    private boolean put() {
        int tree = tree();
        int name = name();
        int c = letter();
        return said("put(" + tree + ", " + name + ", " + c + ")", real.put(tree, name, c),
                model.put(tree, name, c));
    }

    private boolean set() {
        int tree = tree();
        int name = name();
        int place = number(random.nextInt(Math.max(1, model.size(tree, name))));
        int c = letter();
        return said("set(" + tree + ", " + name + ", " + place + ", " + c + ")",
                real.set(tree, name, place, c), model.set(tree, name, place, c));
    }

    private boolean look() {
        int line = number(random.nextInt(2));
        int kind = number(random.nextInt(8));
        int name = name();
        switch (random.nextInt(10)) {
            case 0:
                return said("on()", real.on(), model.on());
            case 1:
                return said("journal()", real.journal(), model.journal());
            case 2:
                return said("waiting(" + line + ")", real.waiting(line), model.waiting(line));
            case 3:
                return said("next(" + line + ")", real.next(line), model.next(line));
            case 4:
                return said("count(" + kind + ")", real.count(kind), model.count(kind));
            case 5:
                return said("selected(" + name + ")", real.selected(name), model.selected(name));
            default:
                return lookAtFile(number(random.nextInt(4) == 0 ? 0 : 1), name);
        }
    }

    private boolean lookAtFile(int tree, int name) {
        int place = number(random.nextInt(Math.max(1, model.size(tree, name))));
        String which = "(" + tree + ", " + name;
        switch (random.nextInt(4)) {
            case 0:
                return said("size" + which + ")", real.size(tree, name), model.size(tree, name));
            case 1:
                return said("time" + which + ")", real.time(tree, name), model.time(tree, name));
            default:
                return said("at" + which + ", " + place + ")", real.at(tree, name, place),
                        model.at(tree, name, place));
        }
    }
}
