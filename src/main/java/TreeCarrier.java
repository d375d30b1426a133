/**
 * Brings a target tree of files up to a source tree over two lines of messages: the receiver tells
 * block by block what it has, the sender answers with copies of those blocks and literal bytes, and
 * a file that was rebuilt and checked takes the old one's place through a journal, so that a crash
 * leaves every file wholly old or wholly new.
 *
 * <p>Every row that a call needs is made in the constructor and used again; no later call makes an
 * object.
 */
public final class TreeCarrier {
    private static final int TREES = 2;
    private static final int SOURCE = 0;
    private static final int TARGET = 1;

    private static final int NAMES = 12;
    private static final int FILE_LIMIT = 40;
    private static final int HIGHEST_BYTE = 255;
    private static final int RULE_LIMIT = 6;
    private static final int HIGHEST_MASK = 15;
    private static final int BLOCK_LIMIT = 8;

    // An open entry has one message under way at a time, so the longest line is the one that
    // a beginning sends: an entry for each name, and the end.
    private static final int LINE_LIMIT = NAMES + 1;

    private static final int TO_SENDER = 0;
    private static final int TO_RECEIVER = 1;

    private static final int ENTRY = 1;
    private static final int END = 2;
    private static final int SIGNATURE = 3;
    private static final int DELTA = 4;
    private static final int GONE = 5;

    private static final int FIRST_ATTEMPT = 1;
    private static final int SECOND_ATTEMPT = 2;

    // An item of a delta is a literal byte below this number, or this number plus a block to copy.
    private static final int COPY_BASE = HIGHEST_BYTE + 1;
    private static final int NO_BLOCK = -1;

    private static final int LITERALS = 0;
    private static final int COPIES = 1;
    private static final int REPEATS = 2;
    private static final int FAILURES = 3;
    private static final int COMPLETE_SESSIONS = 4;
    private static final int SKIPPED_ENTRIES = 5;
    private static final int DELETED_FILES = 6;
    private static final int RECORDS_DONE = 7;
    private static final int COUNT_KINDS = 8;

    private final StoredFile[] files = new StoredFile[TREES * NAMES];
    private final Rules rules = new Rules();
    private final Line toSender = new Line();
    private final Line toReceiver = new Line();
    private final Entry[] list = new Entry[NAMES];
    private final Journal records = new Journal();
    private final Row rebuilt = new Row();
    private final int[] counts = new int[COUNT_KINDS];

    private int clock = 0;
    private boolean sessionOn = false;
    private boolean sessionDeletes = false;
    private int blockSize = 1;

    public TreeCarrier() {
        for (int i = 0; i < files.length; i++) {
            files[i] = new StoredFile();
        }
        for (int name = 0; name < NAMES; name++) {
            list[name] = new Entry();
        }
    }

    public boolean rule(boolean include, int mask, int value) {
        if (!isMask(mask) || !isMask(value)) {
            return false;
        }
        return rules.append(include, mask, value);
    }

    public boolean put(int tree, int name, int c) {
        StoredFile file = slotOf(tree, name);
        if (file == null || !isByte(c) || file.row.isFull()) {
            return false;
        }
        file.exists = true;
        file.row.append(c);
        file.stamp = tick();
        return true;
    }

    public boolean set(int tree, int name, int place, int c) {
        StoredFile file = fileOf(tree, name);
        if (file == null || !file.row.holds(place) || !isByte(c)) {
            return false;
        }
        file.row.replace(place, c);
        file.stamp = tick();
        return true;
    }

    public boolean remove(int tree, int name) {
        StoredFile file = fileOf(tree, name);
        if (file == null) {
            return false;
        }
        file.erase();
        tick();
        return true;
    }

    public boolean begin(int block, boolean deletes) {
        if (sessionOn || block < 1 || block > BLOCK_LIMIT) {
            return false;
        }
        doAllRecords();
        sessionOn = true;
        sessionDeletes = deletes;
        blockSize = block;
        sendEntries();
        return true;
    }

    public int deliver(int line) {
        Line from = lineOf(line);
        Message message = from == null ? null : from.take();
        if (message == null) {
            return 0;
        }
        int kind = message.kind;
        if (from == toReceiver) {
            doOldestRecord();
            receive(message);
        } else {
            answerSignature(message);
        }
        return kind;
    }

    public boolean crash() {
        if (!sessionOn) {
            return false;
        }
        endSession();
        return true;
    }

    public boolean on() {
        return sessionOn;
    }

    public int size(int tree, int name) {
        StoredFile file = fileOf(tree, name);
        return file == null ? -1 : file.row.length;
    }

    public int at(int tree, int name, int place) {
        StoredFile file = fileOf(tree, name);
        return file == null ? -1 : file.row.byteAt(place);
    }

    public int time(int tree, int name) {
        StoredFile file = fileOf(tree, name);
        return file == null ? -1 : file.stamp;
    }

    public boolean selected(int name) {
        return isName(name) && rules.select(name);
    }

    public int waiting(int line) {
        Line asked = lineOf(line);
        return asked == null ? -1 : asked.length;
    }

    public int next(int line) {
        Line asked = lineOf(line);
        return asked == null ? 0 : asked.oldestKind();
    }

    public int journal() {
        return records.length;
    }

    public int count(int kind) {
        return kind < 0 || kind >= COUNT_KINDS ? -1 : counts[kind];
    }

    private static boolean isName(int name) {
        return name >= 0 && name < NAMES;
    }

    private static boolean isByte(int c) {
        return c >= 0 && c <= HIGHEST_BYTE;
    }

    private static boolean isMask(int bits) {
        return bits >= 0 && bits <= HIGHEST_MASK;
    }

    /** The place of a file, whether the file exists or not; null if tree or name is wrong. */
    private StoredFile slotOf(int tree, int name) {
        if (tree < 0 || tree >= TREES || !isName(name)) {
            return null;
        }
        return files[tree * NAMES + name];
    }

    /** The file of that name; null if there is none. */
    private StoredFile fileOf(int tree, int name) {
        StoredFile slot = slotOf(tree, name);
        return slot != null && slot.exists ? slot : null;
    }

    private Line lineOf(int line) {
        if (line == TO_SENDER) {
            return toSender;
        }
        return line == TO_RECEIVER ? toReceiver : null;
    }

    private Entry entryOf(int name) {
        return isName(name) ? list[name] : null;
    }

    private int tick() {
        clock++;
        return clock;
    }

    private void sendEntries() {
        for (int name = 0; name < NAMES; name++) {
            StoredFile file = fileOf(SOURCE, name);
            if (file != null && rules.select(name)) {
                Message entry = toReceiver.append(ENTRY, name);
                entry.fileSize = file.row.length;
                entry.fileStamp = file.stamp;
            }
        }
        toReceiver.append(END, 0);
    }

    private void receive(Message message) {
        switch (message.kind) {
            case ENTRY:
                noteEntry(message);
                break;
            case END:
                openEntries();
                break;
            case DELTA:
                receiveDelta(message);
                break;
            case GONE:
                failEntry(message.name);
                break;
            default:
                break;
        }
        // Before the end has come nothing is open either, but the list is not whole yet.
        if (message.kind != ENTRY && !hasOpenEntry()) {
            concludeSession();
        }
    }

    private void noteEntry(Message message) {
        Entry entry = entryOf(message.name);
        if (entry != null) {
            entry.noted = true;
            entry.fileSize = message.fileSize;
            entry.fileStamp = message.fileStamp;
        }
    }

    /** Entries come by rising names, so the order of the names is the order of the list. */
    private void openEntries() {
        for (int name = 0; name < NAMES; name++) {
            Entry entry = list[name];
            if (!entry.noted) {
                continue;
            }
            if (entry.agreesWith(fileOf(TARGET, name))) {
                counts[SKIPPED_ENTRIES]++;
            } else {
                entry.open = true;
                sendSignature(name, FIRST_ATTEMPT);
            }
        }
    }

    private boolean hasOpenEntry() {
        for (int name = 0; name < NAMES; name++) {
            if (list[name].open) {
                return true;
            }
        }
        return false;
    }

    private void sendSignature(int name, int attempt) {
        StoredFile old = slotOf(TARGET, name);
        if (old == null) {
            return;
        }
        Message signature = toSender.append(SIGNATURE, name);
        signature.attempt = attempt;
        int blocks = blockSize < 1 ? 0 : old.row.length / blockSize;
        for (int k = 0; k < blocks; k++) {
            signature.addItem(old.row.sums(k * blockSize, blockSize, attempt));
        }
    }

    private void answerSignature(Message signature) {
        StoredFile file = fileOf(SOURCE, signature.name);
        if (file == null) {
            toReceiver.append(GONE, signature.name);
            return;
        }
        Message delta = toReceiver.append(DELTA, signature.name);
        delta.attempt = signature.attempt;
        delta.digest = file.row.digest();
        fillDelta(delta, file.row, signature);
    }

    private void fillDelta(Message delta, Row row, Message signature) {
        int copied = 0;
        for (int i = 0; i < row.length; i++) {
            if (i < copied) {
                continue;
            }
            int block = findBlock(row, i, signature);
            if (block == NO_BLOCK) {
                delta.addItem(row.byteAt(i));
                counts[LITERALS]++;
            } else {
                delta.addItem(COPY_BASE + block);
                counts[COPIES]++;
                copied = i + blockSize;
            }
        }
    }

    /** The lowest block of the signature with the sums of the row's bytes from a place on. */
    private int findBlock(Row row, int from, Message signature) {
        if (from + blockSize > row.length) {
            return NO_BLOCK;
        }
        int wanted = row.sums(from, blockSize, signature.attempt);
        for (int k = 0; k < signature.itemCount; k++) {
            if (signature.items[k] == wanted) {
                return k;
            }
        }
        return NO_BLOCK;
    }

    private void receiveDelta(Message delta) {
        Entry entry = entryOf(delta.name);
        StoredFile old = slotOf(TARGET, delta.name);
        if (entry == null || old == null) {
            return;
        }
        rebuild(old.row, delta);
        if (rebuilt.digest() == delta.digest) {
            records.append(delta.name, rebuilt, entry.fileStamp);
            entry.open = false;
        } else if (delta.attempt == FIRST_ATTEMPT) {
            counts[REPEATS]++;
            sendSignature(delta.name, SECOND_ATTEMPT);
        } else {
            failEntry(delta.name);
        }
    }

    private void rebuild(Row old, Message delta) {
        rebuilt.clear();
        for (int i = 0; i < delta.itemCount; i++) {
            int item = delta.items[i];
            if (item < COPY_BASE) {
                rebuilt.append(item);
            } else {
                rebuilt.appendPart(old, (item - COPY_BASE) * blockSize, blockSize);
            }
        }
    }

    private void failEntry(int name) {
        Entry entry = entryOf(name);
        if (entry != null) {
            entry.open = false;
            counts[FAILURES]++;
        }
    }

    private void doOldestRecord() {
        JournalRecord oldest = records.take();
        StoredFile file = oldest == null ? null : slotOf(TARGET, oldest.name);
        if (file != null) {
            file.exists = true;
            file.row.become(oldest.row);
            file.stamp = oldest.stamp;
            counts[RECORDS_DONE]++;
        }
    }

    private void doAllRecords() {
        int left = records.length;
        for (int i = 0; i < left; i++) {
            doOldestRecord();
        }
    }

    private void concludeSession() {
        doAllRecords();
        if (sessionDeletes) {
            deleteUnlisted();
        }
        endSession();
        counts[COMPLETE_SESSIONS]++;
    }

    private void deleteUnlisted() {
        for (int name = 0; name < NAMES; name++) {
            StoredFile file = fileOf(TARGET, name);
            if (file != null && rules.select(name) && !list[name].noted) {
                file.erase();
                counts[DELETED_FILES]++;
            }
        }
    }

    private void endSession() {
        sessionOn = false;
        toSender.clear();
        toReceiver.clear();
        for (int name = 0; name < NAMES; name++) {
            list[name].forget();
        }
    }

    /** A row of at most 40 bytes, and its sums. */
    private static final class Row {
        private static final int WEAK_MODULUS = 16;
        private static final int WEAK_RANGE = 256;
        private static final int STRONG_FACTOR = 31;
        private static final int STRONG_MODULUS = 65521;
        private static final int FIRST_STRONG_MODULUS = 4;
        private static final int DIGEST_START = -2128831035;
        private static final int DIGEST_FACTOR = 16777619;

        private final int[] bytes = new int[FILE_LIMIT];
        private int length = 0;

        boolean isFull() {
            return length >= FILE_LIMIT;
        }

        boolean holds(int place) {
            return place >= 0 && place < length;
        }

        int byteAt(int place) {
            return place >= 0 && place < length ? bytes[place] : -1;
        }

        void clear() {
            length = 0;
        }

        void append(int c) {
            if (length < FILE_LIMIT) {
                bytes[length] = c;
                length++;
            }
        }

        void replace(int place, int c) {
            if (holds(place)) {
                bytes[place] = c;
            }
        }

        /** Appends those of the bytes from a place on that the other row has. */
        void appendPart(Row other, int from, int many) {
            for (int i = 0; i < many; i++) {
                if (other.holds(from + i)) {
                    append(other.bytes[from + i]);
                }
            }
        }

        void become(Row other) {
            length = other.length;
            for (int i = 0; i < length; i++) {
                bytes[i] = other.bytes[i];
            }
        }

        /** Both sums of a part in one number, as a signature of that attempt tells them. */
        int sums(int from, int many, int attempt) {
            int strong = strongSum(from, many);
            int told = attempt == FIRST_ATTEMPT ? strong % FIRST_STRONG_MODULUS : strong;
            return weakSum(from, many) + WEAK_RANGE * told;
        }

        private int weakSum(int from, int many) {
            int plain = 0;
            int weighted = 0;
            for (int i = 0; i < many; i++) {
                int x = byteAt(from + i);
                plain += x;
                weighted += (many - i) * x;
            }
            return plain % WEAK_MODULUS + WEAK_MODULUS * (weighted % WEAK_MODULUS);
        }

        private int strongSum(int from, int many) {
            int h = 0;
            for (int i = 0; i < many; i++) {
                h = (h * STRONG_FACTOR + byteAt(from + i) + 1) % STRONG_MODULUS;
            }
            return h;
        }

        int digest() {
            int h = DIGEST_START;
            for (int i = 0; i < length; i++) {
                h = (h ^ bytes[i]) * DIGEST_FACTOR;
            }
            return h;
        }
    }

    /** The place of one name in a tree; its row is empty while the file does not exist. */
    private static final class StoredFile {
        private final Row row = new Row();
        private boolean exists = false;
        private int stamp = 0;

        void erase() {
            exists = false;
            row.clear();
        }
    }

    /** The rules in the order in which they came. */
    private static final class Rules {
        private final boolean[] includes = new boolean[RULE_LIMIT];
        private final int[] masks = new int[RULE_LIMIT];
        private final int[] values = new int[RULE_LIMIT];
        private int length = 0;

        boolean append(boolean include, int mask, int value) {
            if (length >= RULE_LIMIT) {
                return false;
            }
            includes[length] = include;
            masks[length] = mask;
            values[length] = value;
            length++;
            return true;
        }

        boolean select(int name) {
            for (int i = 0; i < length; i++) {
                if ((name & masks[i]) == values[i]) {
                    return includes[i];
                }
            }
            return true;
        }
    }

    /** What the receiver's list tells of one name. */
    private static final class Entry {
        private boolean noted = false;
        private boolean open = false;
        private int fileSize = 0;
        private int fileStamp = 0;

        boolean agreesWith(StoredFile file) {
            return file != null && file.row.length == fileSize && file.stamp == fileStamp;
        }

        void forget() {
            noted = false;
            open = false;
        }
    }

    /** A message of any kind; a kind leaves the fields alone that it does not use. */
    private static final class Message {
        private int kind = 0;
        private int name = 0;
        private int fileSize = 0;
        private int fileStamp = 0;
        private int attempt = 0;
        private int digest = 0;
        private int itemCount = 0;
        // The sums of a signature's blocks, or what a delta puts together: never more than a
        // file has bytes.
        private final int[] items = new int[FILE_LIMIT];

        void startAs(int newKind, int newName) {
            kind = newKind;
            name = newName;
            itemCount = 0;
        }

        void addItem(int item) {
            if (itemCount < FILE_LIMIT) {
                items[itemCount] = item;
                itemCount++;
            }
        }
    }

    /** The messages that wait in one direction, the oldest first, in a ring. */
    private static final class Line {
        private final Message[] ring = new Message[LINE_LIMIT];
        private int oldest = 0;
        private int length = 0;

        Line() {
            for (int i = 0; i < LINE_LIMIT; i++) {
                ring[i] = new Message();
            }
        }

        /** A new message behind the others, to be filled by the caller. */
        Message append(int kind, int name) {
            Message message = ring[(oldest + length) % LINE_LIMIT];
            message.startAs(kind, name);
            if (length < LINE_LIMIT) {
                length++;
            }
            return message;
        }

        /** The oldest message, which stands until the next one is appended; null if none waits. */
        Message take() {
            if (length == 0) {
                return null;
            }
            Message message = ring[oldest];
            oldest = (oldest + 1) % LINE_LIMIT;
            length--;
            return message;
        }

        int oldestKind() {
            return length == 0 ? 0 : ring[oldest].kind;
        }

        void clear() {
            length = 0;
        }
    }

    /** A file that was rebuilt and checked and waits to take the old one's place. */
    private static final class JournalRecord {
        private final Row row = new Row();
        private int name = 0;
        private int stamp = 0;
    }

    /**
     * The records that wait to be done, the oldest first, in a ring. A session makes at most one
     * record for each name, and its beginning has emptied the journal.
     */
    private static final class Journal {
        private final JournalRecord[] ring = new JournalRecord[NAMES];
        private int oldest = 0;
        private int length = 0;

        Journal() {
            for (int i = 0; i < NAMES; i++) {
                ring[i] = new JournalRecord();
            }
        }

        void append(int name, Row row, int stamp) {
            JournalRecord newest = ring[(oldest + length) % NAMES];
            newest.name = name;
            newest.row.become(row);
            newest.stamp = stamp;
            if (length < NAMES) {
                length++;
            }
        }

        /** The oldest record, which stands until the next one is appended; null if none is there. */
        JournalRecord take() {
            if (length == 0) {
                return null;
            }
            JournalRecord record = ring[oldest];
            oldest = (oldest + 1) % NAMES;
            length--;
            return record;
        }
    }
}
