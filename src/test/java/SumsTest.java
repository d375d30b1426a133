import java.util.Arrays;

/** The sums and the deltas of the section 'Terms', seen through count (promise 17). */
public final class SumsTest {
    public static void main(String[] args) {
        firstAttempt();
        secondAttempt();
        goingThrough();
        digest();
        weakWraps();
        strongWraps();
        digestWraps();
        blocksOfEveryLength();
        endOfTheSource();
        shortEndOfTheTarget();
        noBlockFits();
        Check.finish();
    }

    /** A session that waits for its first signature to be delivered. */
    private static TreeCarrier signed(int block, int[] source, int[] target) {
        TreeCarrier x = new TreeCarrier();
        Check.fill(x, 0, 0, source);
        Check.fill(x, 1, 0, target);
        Check.due("begin", x.begin(block, false), true);
        Check.deliver(x, 1, Check.ENTRY, Check.END);
        return x;
    }

    private static void first(String what, int[] source, int[] target, boolean same) {
        TreeCarrier x = signed(source.length, source, target);
        Check.deliver(x, 0, Check.SIGNATURE);
        Check.dueCounts(what, x, same ? 0 : source.length, same ? 1 : 0);
    }

    private static void firstAttempt() {
        first("the same", new int[] {9, 8, 7}, new int[] {9, 8, 7}, true);
        first("one byte, 16 apart", new int[] {3}, new int[] {243}, true);
        first("one byte, 8 apart", new int[] {3}, new int[] {11}, false);
        first("only the plain sum differs",
                new int[] {138, 77}, new int[] {206, 229}, false);
        first("only the plain sum differs",
                new int[] {131, 74, 137}, new int[] {62, 99, 150}, false);
        first("only the weighted sum differs",
                new int[] {137, 253}, new int[] {145, 5}, false);
        first("only the weighted sum differs",
                new int[] {255, 31, 160, 206}, new int[] {178, 234, 229, 219}, false);
        first("only strong mod 4 differs",
                new int[] {231, 50, 195}, new int[] {103, 114, 243}, false);
        first("only strong mod 4 differs",
                new int[] {93, 187, 54, 39}, new int[] {211, 147, 180, 235}, false);
        first("plain and weighted sum differ, by the same",
                new int[] {61, 180}, new int[] {253, 44}, false);
        first("weak and strong mod 4 differ, by the same",
                new int[] {201, 123}, new int[] {122, 105}, false);
        first("strong differs, not mod 4",
                new int[] {42, 239}, new int[] {202, 95}, true);
        first("strong differs, not mod 4",
                new int[] {123, 17, 60, 182}, new int[] {113, 42, 200, 107}, true);
        first("strong differs mod 8, not mod 4",
                new int[] {117, 191, 30, 57}, new int[] {60, 24, 39, 80}, true);
        first("strong differs mod 4 if no 1 is added, but one is",
                new int[] {87, 168, 247}, new int[] {60, 238, 28}, true);
        first("strong differs mod 4 if 2 is added, but it is 1",
                new int[] {181, 239, 29}, new int[] {202, 21, 18}, true);
        first("strong differs mod 4, not if 2 is added",
                new int[] {65, 29, 208}, new int[] {85, 117, 148}, false);
    }

    private static void secondAttempt() {
        TreeCarrier x = signed(2, new int[] {42, 239}, new int[] {202, 95});
        Check.deliver(x, 0, Check.SIGNATURE);
        Check.deliver(x, 1, Check.DELTA);
        Check.due("open after a repeat", x.on(), true);
        Check.due("a repeat's signature", x.waiting(0), 1);
        Check.deliver(x, 0, Check.SIGNATURE);
        Check.dueCounts("all of strong differs", x, 2, 1, 1, 0, 0);
        Check.deliver(x, 1, Check.DELTA);
        Check.dueCounts("all of strong differs", x, 2, 1, 1, 0, 1, 0, 0, 1);
        Check.dueFile("mended by the repeat", x, 1, 0, 42, 239);

        // These rows agree in all sums but the digest.
        x = signed(3, new int[] {4, 0, 0}, new int[] {0, 120, 124});
        Check.deliver(x, 0, Check.SIGNATURE);
        Check.deliver(x, 1, Check.DELTA);
        Check.deliver(x, 0, Check.SIGNATURE);
        Check.dueCounts("all sums agree", x, 0, 2, 1, 0, 0);
        Check.deliver(x, 1, Check.DELTA);
        Check.dueCounts("all sums agree", x, 0, 2, 1, 1, 1, 0, 0, 0);
        Check.dueFile("a failure leaves the old file", x, 1, 0, 0, 120, 124);
        Check.due("a failure leaves the old time", x.time(1, 0), 6);
    }

    private static void carried(String what, int block, int[] source, int[] target, int... counts) {
        TreeCarrier x = signed(block, source, target);
        Check.carry(x);
        Check.dueCounts(what, x, counts);
        Check.dueFile(what, x, 1, 0, source);
        Check.due(what + ": time", x.time(1, 0), source.length);
    }

    private static void goingThrough() {
        carried("no target", 2, new int[] {1, 2, 3}, new int[] {}, 3, 0, 0, 0, 1);
        carried("the rest is in no block", 2,
                new int[] {1, 2, 3}, new int[] {1, 2, 3}, 1, 1, 0, 0, 1);
        carried("target shorter than a block", 4,
                new int[] {1, 2, 3}, new int[] {1, 2, 3}, 3, 0, 0, 0, 1);
        carried("shifted by a literal", 3,
                new int[] {9, 1, 2, 3, 4, 5, 6}, new int[] {1, 2, 3, 4, 5, 6}, 1, 2, 0, 0, 1);
        carried("blocks turned round", 2,
                new int[] {3, 4, 1, 2, 1, 2}, new int[] {1, 2, 3, 4}, 0, 3, 0, 0, 1);
        carried("from each place on, greedily", 2,
                new int[] {7, 7, 7, 7, 7}, new int[] {7, 7}, 1, 2, 0, 0, 1);
        carried("a block that starts at no multiple is not told", 2,
                new int[] {2, 3}, new int[] {1, 2, 3, 4}, 2, 0, 0, 0, 1);
        carried("block 8", 8,
                new int[] {0, 1, 2, 3, 4, 5, 6, 7, 8}, new int[] {0, 1, 2, 3, 4, 5, 6, 7},
                1, 1, 0, 0, 1);
        lowestBlock();
        fortyBytes();
    }

    private static void lowestBlock() {
        // Both blocks have the sums of the source's byte; only the lowest is the byte itself.
        carried("the lowest is right", 1, new int[] {16}, new int[] {16, 32}, 0, 1, 0, 0, 1);
        carried("the lowest is wrong", 1, new int[] {16}, new int[] {32, 16}, 0, 2, 1, 0, 1);
    }

    private static void fortyBytes() {
        // The plain sums of the source's blocks are 12 to 16 mod 16, those of the other's are 8.
        int[] source = new int[40];
        int[] target = new int[40];
        for (int i = 0; i < 40; i++) {
            source[i] = i % 8 == 0 ? i / 8 : 100;
            target[i] = 201;
        }
        carried("forty literals", 8, source, target, 40, 0, 0, 0, 1);
        carried("five copies", 8, source, source, 0, 5, 0, 0, 1);
    }

    private static void digest() {
        // Two rows with the same digest: the target becomes the other one under way.
        TreeCarrier x = signed(1, new int[] {5, 61, 215, 22}, new int[] {5, 61, 215, 22});
        Check.deliver(x, 0, Check.SIGNATURE);
        int[] other = {25, 180, 237, 17};
        for (int i = 0; i < other.length; i++) {
            Check.due("set", x.set(1, 0, i, other[i]), true);
        }
        Check.deliver(x, 1, Check.DELTA);
        Check.dueCounts("same digest", x, 0, 4, 0, 0, 1, 0, 0, 1);
        Check.dueFile("same digest", x, 1, 0, other);
        Check.due("same digest: time", x.time(1, 0), 4);

        digestOfTheEmptyRow();
        partOfABlock();
    }

    private static void digestOfTheEmptyRow() {
        // A row with the digest of the empty one: a target file of no bytes comes to be.
        int[] asEmpty = {255, 187, 231, 0, 0, 95};
        TreeCarrier x = signed(6, asEmpty, asEmpty);
        Check.deliver(x, 0, Check.SIGNATURE);
        Check.due("remove", x.remove(1, 0), true);
        Check.deliver(x, 1, Check.DELTA);
        Check.dueCounts("digest of the empty row", x, 0, 1, 0, 0, 1, 0, 0, 1);
        Check.dueFile("a file of no bytes", x, 1, 0);
        Check.due("a file of no bytes: time", x.time(1, 0), 6);
        x.begin(6, false);
        Check.deliver(x, 1, Check.ENTRY, Check.END);
        Check.due("same time, other size: not skipped", x.count(Check.SKIPPED), 0);
        Check.due("same time, other size: open", x.waiting(0), 1);
        Check.due("crash", x.crash(), true);
        Check.due("remove of a file of no bytes", x.remove(1, 0), true);
        Check.dueNoFile("removed", x, 1, 0);
    }

    private static void partOfABlock() {
        // The first six bytes leave the digest as it starts, so that the last two alone have the
        // digest of all: a copy of the block of eight takes the two that are there.
        int[] row = {255, 187, 231, 0, 0, 95, 7, 9};
        TreeCarrier x = signed(8, row, row);
        Check.deliver(x, 0, Check.SIGNATURE);
        Check.due("remove", x.remove(1, 0), true);
        Check.fill(x, 1, 0, 7, 9);
        Check.deliver(x, 1, Check.DELTA);
        Check.dueCounts("a part of a block", x, 0, 1, 0, 0, 1, 0, 0, 1);
        Check.dueFile("a part of a block", x, 1, 0, 7, 9);
        Check.due("a part of a block: time", x.time(1, 0), 8);
    }

    private static int[] row(int many, int c) {
        int[] bytes = new int[many];
        Arrays.fill(bytes, c);
        return bytes;
    }

    private static void weakWraps() {
        first("0 and 16: both sums mod 16 are 0", row(1, 0), row(1, 16), true);
        first("0 and 240", row(1, 0), row(1, 240), true);
        first("15 and 255: both sums mod 16 are 15", row(1, 15), row(1, 255), true);
        first("0 and 15", row(1, 0), row(1, 15), false);
        first("15 and 16", row(1, 15), row(1, 16), false);
        first("0 and 255", row(1, 0), row(1, 255), false);
        first("eight bytes 15 and 239", row(8, 15), row(8, 239), true);
        first("eight bytes 16 and 240", row(8, 16), row(8, 240), true);
        first("eight bytes 255 and themselves", row(8, 255), row(8, 255), true);
        first("eight bytes 255 and 15: strong mod 4 differs", row(8, 255), row(8, 15), false);
        first("eight bytes 0 and 16: strong mod 4 differs", row(8, 0), row(8, 16), false);
    }

    /** Attempt 1 copies a wrong block; again tells whether attempt 2 does so, too. */
    private static void attempts(String what, int[] source, int[] target, boolean again) {
        TreeCarrier x = signed(source.length, source, target);
        Check.deliver(x, 0, Check.SIGNATURE);
        Check.dueCounts(what + ", attempt 1", x, 0, 1, 0, 0, 0);
        Check.deliver(x, 1, Check.DELTA);
        Check.deliver(x, 0, Check.SIGNATURE);
        Check.dueCounts(what + ", attempt 2", x, again ? 0 : source.length, again ? 2 : 1, 1, 0, 0);
        Check.deliver(x, 1, Check.DELTA);
        Check.dueCounts(what + ", concluded", x, again ? 0 : source.length, again ? 2 : 1, 1,
                again ? 1 : 0, 1, 0, 0, again ? 0 : 1);
        Check.dueFile(what, x, 1, 0, again ? target : source);
        Check.due(what + ": time", x.time(1, 0), again ? 2 * source.length : source.length);
    }

    private static void strongWraps() {
        // Without mod 65521 these differ, by a multiple of it.
        attempts("strong 0 (65521 and 5 * 65521)",
                new int[] {0, 28, 245, 234}, new int[] {2, 243, 113, 213}, true);
        attempts("strong 65520 (the largest)",
                new int[] {0, 28, 245, 233}, new int[] {2, 243, 113, 212}, true);
        attempts("strong 1", new int[] {0, 28, 245, 235}, new int[] {2, 243, 113, 214}, true);
        attempts("strong wraps with eight bytes",
                new int[] {52, 39, 171, 50, 123, 85, 67, 207},
                new int[] {91, 65, 57, 203, 241, 147, 206, 8}, true);
        // And these agree mod 65536, or mod 4 only.
        attempts("strong does not wrap at 65536",
                new int[] {150, 161, 221, 246}, new int[] {75, 36, 72, 19}, false);
        attempts("strong does not wrap at 65536 with eight bytes",
                new int[] {132, 173, 123, 87, 34, 91, 208, 76},
                new int[] {244, 165, 234, 120, 89, 44, 106, 146}, false);
        attempts("strong 1 and 17", row(1, 0), row(1, 16), false);
        first("strong is taken mod 65521 before mod 4",
                new int[] {7, 6, 86, 222}, new int[] {202, 126, 109, 92}, false);
        first("strong is taken mod 65521 before mod 4, eight bytes",
                new int[] {206, 198, 27, 174, 76, 75, 116, 130},
                new int[] {185, 241, 46, 128, 177, 156, 45, 216}, false);
    }

    /** The target's bytes become others between signature and delta. */
    private static void changedUnderWay(String what, int[] row, int[] other, boolean sameDigest) {
        TreeCarrier x = signed(1, row, row);
        Check.deliver(x, 0, Check.SIGNATURE);
        for (int i = 0; i < other.length; i++) {
            Check.due("set", x.set(1, 0, i, other[i]), true);
        }
        Check.deliver(x, 1, Check.DELTA);
        Check.due(what + ": repeats", x.count(Check.REPEATS), sameDigest ? 0 : 1);
        Check.due(what + ": on", x.on(), !sameDigest);
        Check.dueFile(what, x, 1, 0, other);
        Check.due(what + ": time", x.time(1, 0), sameDigest ? row.length : 3 * row.length);
    }

    private static void digestWraps() {
        changedUnderWay("the digest is an int",
                new int[] {174, 239, 11, 93}, new int[] {138, 102, 149, 98}, true);
        changedUnderWay("the digest is an int",
                new int[] {121, 135, 86, 146}, new int[] {101, 240, 18, 153}, true);
        changedUnderWay("the digest's lowest bit",
                new int[] {214, 247, 176, 70}, new int[] {238, 253, 187, 222}, false);
        changedUnderWay("the digest's highest bit",
                new int[] {10, 91, 230, 2}, new int[] {200, 171, 227, 107}, false);
    }

    /** The same bytes on both sides: a copy for each full block, a literal for each byte behind. */
    private static void blocksOfEveryLength() {
        for (int block = 1; block <= 8; block++) {
            for (int many = 1; many <= 40; many++) {
                int[] bytes = new int[many];
                for (int i = 0; i < many; i++) {
                    bytes[i] = i * 7 % 256;
                }
                TreeCarrier x = signed(block, bytes, bytes);
                Check.deliver(x, 0, Check.SIGNATURE);
                Check.dueCounts(many + " bytes in blocks of " + block, x, many % block,
                        many / block);
            }
        }
    }

    /** The first bytes 1, 2, .. of a row. */
    private static int[] rising(int many) {
        int[] bytes = new int[many];
        for (int i = 0; i < many; i++) {
            bytes[i] = i + 1;
        }
        return bytes;
    }

    /** A source with one byte less than a block, with just one, and with one more on each side. */
    private static void endOfTheSource() {
        for (int block = 2; block <= 8; block++) {
            String what = "block of " + block;
            int[] target = rising(block);
            int[] longer = rising(block + 1);
            longer[block] = 200;
            int[] shifted = new int[block + 1];
            shifted[0] = 200;
            System.arraycopy(target, 0, shifted, 1, block);
            carried(what + ", one byte less", block, rising(block - 1), target,
                    block - 1, 0, 0, 0, 1);
            carried(what + ", all of it", block, target, target, 0, 1, 0, 0, 1);
            carried(what + ", a byte behind", block, longer, target, 1, 1, 0, 0, 1);
            carried(what + ", a byte before", block, shifted, target, 1, 1, 0, 0, 1);
        }
    }

    /** The bytes behind the last full block are told neither as they are nor filled up. */
    private static void shortEndOfTheTarget() {
        for (int block = 2; block <= 8; block++) {
            String what = "one byte less than a block of " + block;
            int[] target = rising(block - 1);
            int[] afterABlock = row(2 * block - 1, 100);
            System.arraycopy(target, 0, afterABlock, block, block - 1);
            firstCounts(what, block, target, target, block - 1, 0);
            firstCounts(what + ", after a full one", block, target, afterABlock, block - 1, 0);
            for (int c = 0; c < 256; c++) {
                int[] filledUp = Arrays.copyOf(target, block);
                filledUp[block - 1] = c;
                firstCounts(what + ", filled up with " + c, block, filledUp, target, block, 0);
                firstCounts(what + ", after its like, filled up with " + c, block, filledUp,
                        afterABlock, block, 0);
            }
        }
    }

    private static void firstCounts(String what, int block, int[] source, int[] target,
            int literals, int copies) {
        TreeCarrier x = signed(block, source, target);
        Check.deliver(x, 0, Check.SIGNATURE);
        Check.dueCounts(what, x, literals, copies);
    }

    private static void noBlockFits() {
        for (int block = 1; block <= 8; block++) {
            firstCounts("an empty signature", block, row(40, 0), new int[] {}, 40, 0);
        }
        firstCounts("none of forty blocks", 1, row(40, 5), row(40, 6), 40, 0);
        firstCounts("none of five blocks", 8, row(40, 5), row(40, 6), 40, 0);
    }
}
