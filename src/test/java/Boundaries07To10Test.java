/** Boundary cases of the promises 7 (start), 8 (rows), 9 (row) and 10 (at), a test for each sentence. */
public final class Boundaries07To10Test {
    private static final int NONE = Disk.NONE;
    private static final int STATE = Disk.STATE;
    private static final int THROWS = Disk.THROWS;

    public static void main(String[] args) {
        Check.runPromises(Boundaries07To10Test.class, 7, 10);
    }

    /** OFF, with two heads as given. */
    private static Disk withHeads(int sectors, int[] head0, int[] head1) {
        Disk x = new Disk(sectors);
        x.off();
        x.forge(0, head0);
        x.forge(1, head1);
        return x;
    }

    private static void dueStarted(Disk x, int number, int count) {
        Check.same("start()", x.start(), 0);
        Check.same("state(0)", x.state(0), number);
        Check.same("state(1)", x.state(1), count);
        Check.same("state(2)", x.state(2), 1);
    }

    private static void dueNoStart(Disk x) {
        Check.same("start()", x.start(), STATE);
        Check.same("state(2)", x.state(2), 0);
        Check.same("rows()", x.rows(), 0);
    }

    static void promise07StateWhileOn() {
        Disk x = new Disk(3);
        x.put(1, 2);
        x.sync();
        x.poke(2, 8, 1);
        String seen = x.look();
        Check.same("start()", x.start(), STATE);
        x.dueLook("start while ON", seen);
        Check.same("cut(0, 0): the sync is still the latest", x.cut(0, 0), 1);
    }

    static void promise07StateWhileOnLeavesRowsToBeLaidDown() {
        Disk x = new Disk(3);
        x.end(1);
        x.add(5);
        Check.same("start() of a new object", x.start(), STATE);
        Check.same("rows()", x.rows(), 1);
        Check.same("end(0): what is collected stays", x.end(0), 1);
        Check.same("row(1, 1)", x.row(1, 1), 1);
        Check.same("sync()", x.sync(), 2);
        Check.same("bytes of rows laid down", x.peek(2, 4), 5);
    }

    static void promise07StateBehindAStart() {
        Disk x = new Disk(3);
        x.off();
        Check.same("start()", x.start(), 0);
        Check.same("start()", x.start(), STATE);
        Check.same("state(2)", x.state(2), 1);
    }

    static void promise07StateIfBothSumsAreWrong() {
        Disk x = new Disk(3);
        x.end(1);
        x.sync();
        x.off();
        x.poke(0, 63, 1);
        x.poke(1, 0, 1);
        String seen = x.look();
        dueNoStart(x);
        x.dueLook("start without a right head", seen);
        x.poke(1, 0, 1);
        Check.same("start() with a head mended", x.start(), 1);
    }

    static void promise07StateIfBothHeadsTellTooManySectors() {
        dueNoStart(withHeads(5, Bytes.head(2, 4), Bytes.head(3, 4)));
    }

    static void promise07StateIfOneSumIsWrongAndTheOtherTellsTooManySectors() {
        Disk x = withHeads(5, Bytes.head(2, 4), Bytes.head(3, 3));
        x.poke(1, 59, 1);
        dueNoStart(x);
    }

    static void promise07OneRightHeadIsEnough() {
        Disk x = withHeads(5, Bytes.head(2, 0), Bytes.head(3, 1));
        x.poke(1, 30, 1);
        dueStarted(x, 2, 0);
        x.off();
        x.poke(1, 30, 1);
        x.poke(0, 30, 1);
        dueStarted(x, 3, 1);
    }

    static void promise07AHeadMayTellAllSectorsOfTheLog() {
        dueStarted(withHeads(3, Bytes.head(2, 1), new int[64]), 2, 1);
        dueStarted(withHeads(5, Bytes.head(2, 3), Bytes.head(1, 0)), 2, 3);
        dueStarted(withHeads(40, new int[64], Bytes.head(3, 38)), 3, 38);
    }

    static void promise07AHeadIsNotRightThatTellsOneSectorMoreThanThereAre() {
        dueStarted(withHeads(3, Bytes.head(2, 2), new int[64]), 0, 0);
        dueStarted(withHeads(5, Bytes.head(2, 4), Bytes.head(1, 1)), 1, 1);
        dueStarted(withHeads(40, new int[64], Bytes.head(3, 39)), 0, 0);
    }

    static void promise07AHeadIsNotRightThatTellsFarTooManySectors() {
        long[] counts = {256, 0x00010000, 0x01000000, 0x7FFFFFFF, 0x80000000L, 0xFFFFFFFFL};
        for (long count : counts) {
            dueStarted(withHeads(5, Bytes.head(2, count), Bytes.head(1, 1)), 1, 1);
        }
    }

    static void promise07EachByteOfAHeadCountsForItsSum() {
        Disk x = new Disk(3);
        x.sync();
        x.sync();
        x.off();
        for (int i = 0; i < 64; i++) {
            x.poke(0, i, 0x10);
            Check.same("start() with byte " + i + " spoilt", x.start(), 0);
            Check.same("state(0) with byte " + i + " spoilt", x.state(0), 1);
            x.off();
            x.poke(0, i, 0x10);
        }
        x.start();
        Check.same("state(0)", x.state(0), 2);
    }

    static void promise07TheGreaterNumberTellsTheLog() {
        dueStarted(withHeads(5, Bytes.head(4, 2), Bytes.head(3, 1)), 4, 2);
        dueStarted(withHeads(5, Bytes.head(4, 2), Bytes.head(5, 1)), 5, 1);
        dueStarted(withHeads(5, Bytes.head(255, 2), Bytes.head(256, 1)), 256, 1);
        dueStarted(withHeads(5, Bytes.head(0x01000000, 2), Bytes.head(0x00FFFFFF, 1)), 0x01000000, 2);
    }

    static void promise07OfTheSameNumberSector0TellsTheLog() {
        dueStarted(withHeads(5, Bytes.head(7, 2), Bytes.head(7, 1)), 7, 2);
        dueStarted(withHeads(5, Bytes.head(8, 1), Bytes.head(8, 2)), 8, 1);
    }

    static void promise07AHeadOf0sHasNumber0() {
        Disk x = new Disk(4);
        x.off();
        dueStarted(x, 0, 0);
        dueStarted(withHeads(4, new int[64], Bytes.head(1, 2)), 1, 2);
        dueStarted(withHeads(4, Bytes.head(2, 2), new int[64]), 2, 2);
        dueStarted(withHeads(4, new int[64], Bytes.head(0, 2)), 0, 0);
        dueStarted(withHeads(4, Bytes.head(0, 2), new int[64]), 0, 2);
    }

    static void promise07AHeadOf0sIsRight() {
        Disk x = new Disk(4);
        x.end(1);
        x.sync();
        x.off();
        x.poke(1, 3, 2);
        dueStarted(x, 0, 0);
        Disk y = withHeads(4, Bytes.head(2, 2), new int[64]);
        y.poke(0, 3, 1);
        dueStarted(y, 0, 0);
    }

    static void promise07RowsAreReadInOrder() {
        Disk x = new Disk(5);
        x.put(3, 40);
        x.put(2, 12);
        x.sync();
        x.put(1, 1);
        x.sync();
        x.off();
        Check.same("start()", x.start(), 3);
        int[][] want = {{3, 40, 2}, {2, 12, 3}, {1, 1, 4}};
        for (int k = 0; k < 3; k++) {
            for (int what = 0; what < 3; what++) {
                Check.same("row(" + k + ", " + what + ")", x.row(k, what), want[k][what]);
            }
            Check.same("its first byte", x.at(k, 0), 100);
            Check.same("its last byte", x.at(k, want[k][1] - 1), 99 + want[k][1]);
        }
    }

    static void promise07RowsAreReadAgainAndAgain() {
        Disk x = new Disk(3);
        x.put(3, 40);
        x.put(2, 11);
        x.sync();
        for (int turn = 0; turn < 60; turn++) {
            x.off();
            Check.same("start()", x.start(), 2);
            Check.same("row(0, 1)", x.row(0, 1), 40);
            Check.same("at(1, 0)", x.at(1, 0), 100);
            Check.same("at(1, 10)", x.at(1, 10), 110);
        }
    }

    static void promise07ALogWithoutSectorsHasNoRows() {
        Disk x = new Disk(4);
        x.end(1);
        x.sync();
        x.cut(1, 0);
        Check.same("start(): sector 2 belongs to no head", x.start(), 0);
        Check.same("rows()", x.rows(), 0);
        Check.same("bad()", x.bad(), 0);
    }

    static void promise07NothingIsToBeLaidDown() {
        Disk x = new Disk(4);
        x.end(1);
        x.sync();
        x.end(2);
        x.off();
        x.start();
        Check.same("sync()", x.sync(), 1);
        x.off();
        x.start();
        Check.same("off()", x.off(), 0);
    }

    static void promise07NumbersOfSyncsGoOn() {
        Disk x = new Disk(4);
        x.sync();
        x.sync();
        x.sync();
        x.cut(0, 0);
        x.start();
        Check.same("state(0)", x.state(0), 2);
        x.sync();
        Check.same("state(0)", x.state(0), 3);
        x.dueSector(1, Bytes.head(3, 0));
        x.dueSector(0, Bytes.head(2, 0));
    }

    static void promise07NumbersOfSyncsGoOnFromAnOlderHead() {
        Disk x = new Disk(4);
        x.sync();
        x.sync();
        x.off();
        x.poke(0, 0, 1);
        x.start();
        x.sync();
        Check.same("state(0)", x.state(0), 2);
        x.dueSector(0, Bytes.head(2, 0));
    }

    static void promise08NoneOfANewObject() {
        Check.same("rows()", new Disk(3).rows(), 0);
    }

    static void promise08RowsToBeLaidDownCount() {
        Disk x = new Disk(4);
        x.end(0);
        Check.same("rows()", x.rows(), 1);
        x.sync();
        Check.same("rows()", x.rows(), 1);
        x.end(0);
        Check.same("rows()", x.rows(), 2);
    }

    static void promise08BytesCollectedDoNotCount() {
        Disk x = new Disk(4);
        x.add(1);
        Check.same("rows()", x.rows(), 0);
    }

    static void promise08RefusedRowsDoNotCount() {
        Disk x = new Disk(3);
        x.put(0, 40);
        x.end(4);
        x.put(0, 40);
        Check.same("rows()", x.rows(), 1);
    }

    static void promise08ZeroWhileOff() {
        Disk x = new Disk(4);
        x.end(0);
        x.sync();
        x.end(0);
        x.off();
        Check.same("rows() behind off", x.rows(), 0);
        x.start();
        x.sync();
        x.cut(1, 0);
        Check.same("rows() behind a cut", x.rows(), 0);
        x.poke(0, 0, 1);
        x.poke(1, 0, 1);
        x.start();
        Check.same("rows() behind a start without a head", x.rows(), 0);
    }

    static void promise09NoneIfThereIsNoSuchRow() {
        Disk x = new Disk(4);
        x.end(0);
        x.end(0);
        x.sync();
        x.end(0);
        int[] numbers = {-1, 3, 4, 300, Integer.MIN_VALUE, Integer.MAX_VALUE};
        for (int number : numbers) {
            for (int what = -1; what <= 3; what++) {
                Check.same("row(" + number + ", " + what + ")", x.row(number, what), NONE);
            }
        }
        Check.same("row(2, 0)", x.row(2, 0), 0);
        Check.same("row(0, 0)", x.row(0, 0), 0);
    }

    static void promise09NoneIfThereAreNoRows() {
        Disk x = new Disk(4);
        x.add(1);
        for (int what = 0; what <= 2; what++) {
            Check.same("row(0, " + what + ")", x.row(0, what), NONE);
        }
    }

    static void promise09NoneOfAnotherWhat() {
        Disk x = new Disk(4);
        x.put(1, 3);
        x.sync();
        int[] others = {-1, 3, 4, Integer.MIN_VALUE, Integer.MAX_VALUE};
        for (int what : others) {
            Check.same("row(0, " + what + ")", x.row(0, what), NONE);
        }
    }

    static void promise09NoneWhileOff() {
        Disk x = new Disk(4);
        x.end(1);
        x.sync();
        x.off();
        for (int what = 0; what <= 2; what++) {
            Check.same("row(0, " + what + ")", x.row(0, what), NONE);
        }
    }

    static void promise09LeastAndGreatestKindAndSize() {
        Disk x = new Disk(4);
        x.put(0, 40);
        x.put(3, 0);
        Check.same("row(0, 0)", x.row(0, 0), 0);
        Check.same("row(0, 1)", x.row(0, 1), 40);
        Check.same("row(1, 0)", x.row(1, 0), 3);
        Check.same("row(1, 1)", x.row(1, 1), 0);
    }

    static void promise09NoSectorBeforeItIsLaidDown() {
        Disk x = new Disk(4);
        x.end(1);
        Check.same("row(0, 2)", x.row(0, 2), -1);
        x.sync();
        Check.same("row(0, 2)", x.row(0, 2), 2);
        x.end(1);
        Check.same("row(0, 2)", x.row(0, 2), 2);
        Check.same("row(1, 2)", x.row(1, 2), -1);
        x.sync();
        Check.same("row(1, 2)", x.row(1, 2), 3);
    }

    static void promise10ThrowsIfThereIsNoSuchByte() {
        Disk x = new Disk(4);
        x.put(0, 3);
        x.put(0, 40);
        int[] others = {-1, 3, 4, 40, Integer.MIN_VALUE, Integer.MAX_VALUE};
        for (int i : others) {
            Check.same("at(0, " + i + ")", x.at(0, i), THROWS);
        }
        Check.same("at(0, 2)", x.at(0, 2), 102);
        Check.same("at(1, 0)", x.at(1, 0), 100);
        Check.same("at(1, 39)", x.at(1, 39), 139);
        Check.same("at(1, 40)", x.at(1, 40), THROWS);
        Check.same("at(1, -1): a byte of the row before", x.at(1, -1), THROWS);
    }

    static void promise10ThrowsForARowOfNoBytes() {
        Disk x = new Disk(4);
        x.end(0);
        x.put(0, 1);
        Check.same("at(0, 0)", x.at(0, 0), THROWS);
        x.sync();
        x.off();
        x.start();
        Check.same("at(0, 0)", x.at(0, 0), THROWS);
    }

    static void promise10ThrowsAnArrayIndexOutOfBoundsException() {
        LibraryDisk x = new LibraryDisk(4);
        x.end(0);
        String thrown = "nothing";
        try {
            x.at(0, 0);
        } catch (RuntimeException e) {
            thrown = e.getClass().getName();
        }
        if (!thrown.equals("java.lang.ArrayIndexOutOfBoundsException")) {
            Check.fault("at(0, 0) threw " + thrown);
        }
    }

    static void promise10ChangesNothingWhereItThrows() {
        Disk x = new Disk(3);
        x.put(0, 2);
        x.sync();
        String seen = x.look();
        Check.same("at(0, 2)", x.at(0, 2), THROWS);
        x.dueLook("at", seen);
    }

    static void promise10NoneIfThereIsNoSuchRow() {
        Disk x = new Disk(4);
        Check.same("at(0, 0) without rows", x.at(0, 0), NONE);
        x.put(0, 3);
        int[] numbers = {-1, 1, 2, Integer.MIN_VALUE, Integer.MAX_VALUE};
        for (int number : numbers) {
            Check.same("at(" + number + ", 0)", x.at(number, 0), NONE);
            Check.same("at(" + number + ", -1)", x.at(number, -1), NONE);
            Check.same("at(" + number + ", 40)", x.at(number, 40), NONE);
        }
    }

    static void promise10NoneWhileOff() {
        Disk x = new Disk(4);
        x.put(0, 3);
        x.sync();
        x.off();
        Check.same("at(0, 0)", x.at(0, 0), NONE);
        Check.same("at(0, 3)", x.at(0, 3), NONE);
    }

    static void promise10BytesFrom0To255() {
        for (int first = 0; first < 256; first += 40) {
            Disk x = new Disk(4);
            int size = Math.min(40, 256 - first);
            for (int i = 0; i < size; i++) {
                x.add(first + i);
            }
            x.end(0);
            for (int i = 0; i < size; i++) {
                Check.same("at(0, " + i + ")", x.at(0, i), first + i);
            }
            x.sync();
            x.off();
            x.start();
            for (int i = 0; i < size; i++) {
                Check.same("at(0, " + i + ") behind a start", x.at(0, i), first + i);
            }
        }
    }
}
