import java.util.ArrayDeque;
import java.util.ArrayList;
import java.util.LinkedHashMap;
import java.util.List;
import java.util.Map;
import java.util.TreeMap;

/** The document once more, with the Java library and with no thought of room or speed. */
final class Model {
    record Held(List<Integer> bytes, int time) { }

    record Rule(boolean include, int mask, int value) { }

    record Sum(int weak, int strong) { }

    record Item(boolean copy, int number) { }

    record Mail(int kind, int name, int size, int time, int attempt, List<Sum> sums,
            List<Item> items, int digest) { }

    record Kept(int name, List<Integer> bytes, int time) { }

    private final List<TreeMap<Integer, Held>> trees =
            List.of(new TreeMap<>(), new TreeMap<>());
    private final List<Rule> rules = new ArrayList<>();
    private final List<ArrayDeque<Mail>> lines = List.of(new ArrayDeque<>(), new ArrayDeque<>());
    private final Map<Integer, Mail> list = new LinkedHashMap<>();
    private final List<Integer> open = new ArrayList<>();
    private final ArrayDeque<Kept> journal = new ArrayDeque<>();
    private final int[] counts = new int[8];
    private int clock;
    private boolean on;
    private boolean deletes;
    private int block;

    private static boolean in(int low, int x, int high) {
        return low <= x && x <= high;
    }

    private Held held(int tree, int name) {
        return in(0, tree, 1) ? trees.get(tree).get(name) : null;
    }

    boolean rule(boolean include, int mask, int value) {
        if (!in(0, mask, 15) || !in(0, value, 15) || rules.size() == 6) {
            return false;
        }
        return rules.add(new Rule(include, mask, value));
    }

    boolean put(int tree, int name, int c) {
        if (!in(0, tree, 1) || !in(0, name, 11) || !in(0, c, 255)) {
            return false;
        }
        Held old = held(tree, name);
        List<Integer> bytes = old == null ? new ArrayList<>() : new ArrayList<>(old.bytes());
        if (bytes.size() == 40) {
            return false;
        }
        bytes.add(c);
        clock++;
        trees.get(tree).put(name, new Held(bytes, clock));
        return true;
    }

    boolean set(int tree, int name, int place, int c) {
        Held old = held(tree, name);
        if (old == null || !in(0, place, old.bytes().size() - 1) || !in(0, c, 255)) {
            return false;
        }
        List<Integer> bytes = new ArrayList<>(old.bytes());
        bytes.set(place, c);
        clock++;
        trees.get(tree).put(name, new Held(bytes, clock));
        return true;
    }

    boolean remove(int tree, int name) {
        if (held(tree, name) == null) {
            return false;
        }
        clock++;
        trees.get(tree).remove(name);
        return true;
    }

    boolean begin(int size, boolean withDeletes) {
        if (on || !in(1, size, 8)) {
            return false;
        }
        while (!journal.isEmpty()) {
            doOldest();
        }
        on = true;
        block = size;
        deletes = withDeletes;
        trees.get(0).forEach((name, file) -> {
            if (selected(name)) {
                lines.get(1).add(new Mail(1, name, file.bytes().size(), file.time(), 0, null,
                        null, 0));
            }
        });
        lines.get(1).add(new Mail(2, -1, 0, 0, 0, null, null, 0));
        return true;
    }

    int deliver(int line) {
        if (!in(0, line, 1) || lines.get(line).isEmpty()) {
            return 0;
        }
        Mail mail = lines.get(line).remove();
        if (line == 1 && !journal.isEmpty()) {
            doOldest();
        }
        switch (mail.kind()) {
            case 1 -> list.put(mail.name(), mail);
            case 2 -> end();
            case 3 -> signature(mail);
            case 4 -> delta(mail);
            default -> {
                counts[3]++;
                close(mail.name());
            }
        }
        return mail.kind();
    }

    private void end() {
        for (Mail entry : list.values()) {
            Held file = held(1, entry.name());
            if (file != null && file.bytes().size() == entry.size()
                    && file.time() == entry.time()) {
                counts[5]++;
            } else {
                open.add(entry.name());
                sign(entry.name(), 1);
            }
        }
        if (open.isEmpty()) {
            conclude();
        }
    }

    private void sign(int name, int attempt) {
        List<Sum> sums = new ArrayList<>();
        Held file = held(1, name);
        if (file != null) {
            for (int end = block; end <= file.bytes().size(); end += block) {
                sums.add(sum(file.bytes().subList(end - block, end), attempt));
            }
        }
        lines.get(0).add(new Mail(3, name, 0, 0, attempt, sums, null, 0));
    }

    private static Sum sum(List<Integer> row, int attempt) {
        long plain = 0;
        long weighted = 0;
        long strong = 0;
        for (int i = 0; i < row.size(); i++) {
            plain += row.get(i);
            weighted += (long) (row.size() - i) * row.get(i);
            strong = (strong * 31 + row.get(i) + 1) % 65521;
        }
        int told = (int) (attempt == 1 ? strong % 4 : strong);
        return new Sum((int) (plain % 16 + 16 * (weighted % 16)), told);
    }

    private static int digest(List<Integer> row) {
        int h = -2128831035;
        for (int x : row) {
            h = (h ^ x) * 16777619;
        }
        return h;
    }

    private void signature(Mail mail) {
        Held file = held(0, mail.name());
        if (file == null) {
            lines.get(1).add(new Mail(5, mail.name(), 0, 0, 0, null, null, 0));
            return;
        }
        List<Item> items = new ArrayList<>();
        int i = 0;
        while (i < file.bytes().size()) {
            int found = -1;
            if (i + block <= file.bytes().size()) {
                found = mail.sums().indexOf(sum(file.bytes().subList(i, i + block),
                        mail.attempt()));
            }
            items.add(found >= 0 ? new Item(true, found) : new Item(false, file.bytes().get(i)));
            counts[found >= 0 ? 1 : 0]++;
            i += found >= 0 ? block : 1;
        }
        lines.get(1).add(new Mail(4, mail.name(), 0, 0, mail.attempt(), null, items,
                digest(file.bytes())));
    }

    private void delta(Mail mail) {
        Held old = held(1, mail.name());
        List<Integer> bytes = new ArrayList<>();
        for (Item item : mail.items()) {
            if (!item.copy()) {
                bytes.add(item.number());
            } else if (old != null) {
                int size = old.bytes().size();
                int from = Math.min(size, item.number() * block);
                bytes.addAll(old.bytes().subList(from, Math.min(size, from + block)));
            }
        }
        if (digest(bytes) == mail.digest()) {
            journal.add(new Kept(mail.name(), bytes, list.get(mail.name()).time()));
            close(mail.name());
        } else if (mail.attempt() == 1) {
            counts[2]++;
            sign(mail.name(), 2);
        } else {
            counts[3]++;
            close(mail.name());
        }
    }

    private void close(int name) {
        open.remove(Integer.valueOf(name));
        if (open.isEmpty()) {
            conclude();
        }
    }

    private void doOldest() {
        Kept kept = journal.remove();
        trees.get(1).put(kept.name(), new Held(kept.bytes(), kept.time()));
        counts[7]++;
    }

    private void conclude() {
        while (!journal.isEmpty()) {
            doOldest();
        }
        if (deletes) {
            int before = trees.get(1).size();
            trees.get(1).keySet().removeIf(name -> selected(name) && !list.containsKey(name));
            counts[6] += before - trees.get(1).size();
        }
        counts[4]++;
        over();
    }

    private void over() {
        on = false;
        lines.forEach(ArrayDeque::clear);
        list.clear();
        open.clear();
    }

    boolean crash() {
        boolean was = on;
        over();
        return was;
    }

    boolean on() {
        return on;
    }

    int size(int tree, int name) {
        Held file = held(tree, name);
        return file == null ? -1 : file.bytes().size();
    }

    int at(int tree, int name, int place) {
        Held file = held(tree, name);
        return file != null && in(0, place, file.bytes().size() - 1) ? file.bytes().get(place) : -1;
    }

    int time(int tree, int name) {
        Held file = held(tree, name);
        return file == null ? -1 : file.time();
    }

    boolean selected(int name) {
        if (!in(0, name, 11)) {
            return false;
        }
        return rules.stream().filter(r -> (name & r.mask()) == r.value()).findFirst()
                .map(Rule::include).orElse(true);
    }

    int waiting(int line) {
        return in(0, line, 1) ? lines.get(line).size() : -1;
    }

    int next(int line) {
        return in(0, line, 1) && !lines.get(line).isEmpty() ? lines.get(line).peek().kind() : 0;
    }

    int journal() {
        return journal.size();
    }

    int count(int kind) {
        return in(0, kind, 7) ? counts[kind] : -1;
    }
}
