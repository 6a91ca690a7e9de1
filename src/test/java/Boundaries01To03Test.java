/** Boundary cases of the promises 1 (a new object), 2 (add) and 3 (end), a test for each sentence. */
public final class Boundaries01To03Test {
    private static final int NONE = Disk.NONE;
    private static final int RANGE = Disk.RANGE;
    private static final int STATE = Disk.STATE;
    private static final int FULL = Disk.FULL;
    private static final int THROWS = Disk.THROWS;

    public static void main(String[] args) {
        Check.runPromises(Boundaries01To03Test.class, 1, 3);
    }

    private static void dueSectors(int asked, int want) {
        Disk x = new Disk(asked);
        Check.same("state(3) of " + asked, x.state(3), want);
        Check.same("the last byte of " + asked, x.peek(want - 1, 63), 0);
        Check.same("the byte behind it of " + asked, x.peek(want, 0), NONE);
    }

    static void promise01LessThan3SectorsAre3() {
        int[] less = {2, 1, 0, -1, -2, -40, Integer.MIN_VALUE};
        for (int asked : less) {
            dueSectors(asked, 3);
        }
    }

    static void promise01From3To40SectorsAreSoMany() {
        for (int asked = 3; asked <= 40; asked++) {
            dueSectors(asked, asked);
        }
    }

    static void promise01MoreThan40SectorsAre40() {
        int[] more = {41, 42, 256, 1 << 26, Integer.MAX_VALUE};
        for (int asked : more) {
            dueSectors(asked, 40);
        }
    }

    static void promise01AllBytesAre0AtFirst() {
        for (int sector = 0; sector < 3; sector++) {
            new Disk(3).dueSector(sector, new int[64]);
        }
        for (int sector = 0; sector < 40; sector++) {
            new Disk(40).dueSector(sector, new int[64]);
        }
    }

    static void promise01IsOnAtFirst() {
        Disk x = new Disk(3);
        Check.same("state(2)", x.state(2), 1);
        Check.same("start()", x.start(), STATE);
        Check.same("off()", x.off(), 0);
    }

    static void promise01IsWithoutRowsAtFirst() {
        Disk x = new Disk(3);
        Check.same("rows()", x.rows(), 0);
        Check.same("row(0, 0)", x.row(0, 0), NONE);
        Check.same("sync(): no row is to be laid down", x.sync(), 1);
        Check.same("end(0): nothing is collected", x.end(0), 0);
        Check.same("row(0, 1)", x.row(0, 1), 0);
    }

    static void promise01ThreeSectorsAreALogOfOne() {
        Disk x = new Disk(3);
        Check.same("end(0)", x.end(0), 0);
        Check.same("sync()", x.sync(), 2);
        Check.same("row(0, 2)", x.row(0, 2), 2);
        Check.same("end(0)", x.end(0), FULL);
    }

    static void promise01FortySectorsAreALogOf38() {
        Disk x = new Disk(40);
        for (int i = 0; i < 38; i++) {
            Check.same("end(0)", x.end(0), i);
            Check.same("sync()", x.sync(), 2);
            Check.same("row(" + i + ", 2)", x.row(i, 2), 2 + i);
        }
        Check.same("end(0)", x.end(0), FULL);
    }

    static void promise02FortyBytesAreCollected() {
        Disk x = new Disk(3);
        for (int i = 0; i < 40; i++) {
            x.add(i + 1);
        }
        x.end(0);
        Check.same("row(0, 1)", x.row(0, 1), 40);
        for (int i = 0; i < 40; i++) {
            Check.same("at(0, " + i + ")", x.at(0, i), i + 1);
        }
    }

    static void promise02TheByteBeyond40IsLost() {
        Disk x = new Disk(3);
        for (int i = 0; i < 41; i++) {
            x.add(i + 1);
        }
        x.end(0);
        Check.same("row(0, 1)", x.row(0, 1), 40);
        Check.same("at(0, 0)", x.at(0, 0), 1);
        Check.same("at(0, 39)", x.at(0, 39), 40);
        Check.same("at(0, 40)", x.at(0, 40), THROWS);
    }

    static void promise02AllBytesBeyond40AreLost() {
        Disk x = new Disk(4);
        for (int i = 0; i < 400; i++) {
            x.add(i);
        }
        x.end(0);
        Check.same("row(0, 1)", x.row(0, 1), 40);
        Check.same("at(0, 39)", x.at(0, 39), 39);
        x.add(77);
        x.end(0);
        Check.same("row(1, 1): none of the lost bytes comes later", x.row(1, 1), 1);
        Check.same("at(1, 0)", x.at(1, 0), 77);
    }

    static void promise02BytesBeyond40AreLostBehindARefusedEnd() {
        Disk x = new Disk(3);
        for (int i = 0; i < 40; i++) {
            x.add(i);
        }
        x.end(4);
        x.add(99);
        x.end(0);
        Check.same("row(0, 1)", x.row(0, 1), 40);
        Check.same("at(0, 39)", x.at(0, 39), 39);
    }

    static void promise02LeastAndGreatestByte() {
        Disk x = new Disk(3);
        x.add(0);
        x.add(127);
        x.add(128);
        x.add(255);
        x.end(0);
        Check.same("at(0, 0)", x.at(0, 0), 0);
        Check.same("at(0, 1)", x.at(0, 1), 127);
        Check.same("at(0, 2)", x.at(0, 2), 128);
        Check.same("at(0, 3)", x.at(0, 3), 255);
    }

    static void promise03StateWhileOff() {
        Disk x = new Disk(3);
        x.end(1);
        x.sync();
        x.off();
        String seen = x.look();
        for (int kind = 0; kind <= 3; kind++) {
            Check.same("end(" + kind + ")", x.end(kind), STATE);
        }
        x.dueLook("end while OFF", seen);
    }

    static void promise03StateBehindACutAndARefusedStart() {
        Disk x = new Disk(3);
        x.sync();
        x.cut(0, 0);
        Check.same("end(0) behind a cut", x.end(0), STATE);
        x.poke(0, 0, 1);
        x.poke(1, 0, 1);
        Check.same("start()", x.start(), STATE);
        Check.same("end(0) behind a start without a head", x.end(0), STATE);
    }

    static void promise03StaysCollectedBehindState() {
        Disk x = new Disk(3);
        x.off();
        x.add(11);
        x.add(12);
        Check.same("end(0)", x.end(0), STATE);
        x.start();
        Check.same("end(1)", x.end(1), 0);
        Check.same("row(0, 1)", x.row(0, 1), 2);
        Check.same("at(0, 1)", x.at(0, 1), 12);
    }

    static void promise03KindsFrom0To3() {
        Disk x = new Disk(3);
        for (int kind = 0; kind <= 3; kind++) {
            Check.same("end(" + kind + ")", x.end(kind), kind);
            Check.same("row(" + kind + ", 0)", x.row(kind, 0), kind);
        }
    }

    static void promise03RangeOfOtherKinds() {
        Disk x = new Disk(3);
        x.put(2, 3);
        String seen = x.look();
        int[] kinds = {-1, 4, 5, 256, 257, -256, Integer.MIN_VALUE, Integer.MAX_VALUE};
        for (int kind : kinds) {
            Check.same("end(" + kind + ")", x.end(kind), RANGE);
        }
        x.dueLook("end of another kind", seen);
    }

    static void promise03StaysCollectedBehindRange() {
        Disk x = new Disk(3);
        x.add(11);
        x.end(-1);
        x.add(12);
        x.end(4);
        Check.same("end(3)", x.end(3), 0);
        Check.same("row(0, 1)", x.row(0, 1), 2);
        Check.same("at(0, 0)", x.at(0, 0), 11);
        Check.same("at(0, 1)", x.at(0, 1), 12);
    }

    static void promise03RowOfNoBytes() {
        Disk x = new Disk(3);
        Check.same("end(3)", x.end(3), 0);
        Check.same("row(0, 0)", x.row(0, 0), 3);
        Check.same("row(0, 1)", x.row(0, 1), 0);
        x.sync();
        x.off();
        Check.same("start()", x.start(), 1);
        Check.same("row(0, 1)", x.row(0, 1), 0);
    }

    static void promise03NothingIsCollectedAnyMore() {
        Disk x = new Disk(3);
        x.put(0, 40);
        Check.same("end(0)", x.end(0), 1);
        Check.same("row(1, 1)", x.row(1, 1), 0);
    }

    static void promise03NumbersGoOnBehindSyncAndStart() {
        Disk x = new Disk(5);
        Check.same("end(0)", x.end(0), 0);
        Check.same("end(0)", x.end(0), 1);
        x.sync();
        Check.same("end(0) behind a sync", x.end(0), 2);
        x.off();
        x.start();
        Check.same("end(0): the row that was lost has left its number", x.end(0), 2);
    }

    static void promise03FullIfASectorHasOneByteTooFew() {
        Disk x = new Disk(3);
        x.put(0, 40);
        Check.same("12 bytes where 11 have room", x.put(0, 12), FULL);
        Disk y = new Disk(3);
        y.put(0, 40);
        Check.same("11 bytes, the last that have room", y.put(0, 11), 1);
        Check.same("end(0) with 0 bytes left", y.end(0), FULL);
    }

    static void promise03FullIfOneByteIsLeft() {
        Disk x = new Disk(3);
        x.put(0, 40);
        x.put(0, 10);
        Check.same("end(0): a row takes 2 bytes at least", x.end(0), FULL);
        Disk y = new Disk(3);
        y.put(0, 40);
        y.put(0, 9);
        Check.same("end(0) with 2 bytes left", y.end(0), 2);
    }

    static void promise03NotFullWhileASectorIsFree() {
        Disk x = new Disk(4);
        x.put(0, 40);
        Check.same("12 bytes go into the next sector", x.put(0, 12), 1);
        Check.same("39 bytes behind them", x.put(0, 39), 2);
        Check.same("end(0)", x.end(0), FULL);
    }

    static void promise03FullIfOnlyAnEarlierSectorHasRoom() {
        Disk x = new Disk(4);
        x.put(0, 30);
        x.put(0, 40);
        Check.same("12 bytes: rows stay in order", x.put(0, 12), FULL);
        Check.same("rows()", x.rows(), 2);
    }

    static void promise03FullIfAllSectorsBelongToTheHead() {
        Disk x = new Disk(3);
        x.end(0);
        x.sync();
        Check.same("end(0): the rest of sector 2 is no room", x.end(0), FULL);
        x.sync();
        Check.same("end(0) behind one more sync", x.end(0), FULL);
        x.off();
        x.start();
        Check.same("end(0) behind a start", x.end(0), FULL);
    }

    static void promise03FullWithABadSectorToo() {
        Disk x = new Disk(3);
        x.end(0);
        x.sync();
        x.poke(2, 5, 1);
        x.off();
        Check.same("start()", x.start(), 0);
        Check.same("end(0): a BAD sector belongs to the head", x.end(0), FULL);
    }

    static void promise03RoomComesBackWithRowsLost() {
        Disk x = new Disk(3);
        x.put(0, 40);
        Check.same("12 bytes", x.put(0, 12), FULL);
        x.off();
        x.start();
        Check.same("40 bytes", x.put(0, 40), 0);
        Check.same("11 bytes", x.put(0, 11), 1);
    }

    static void promise03RoomComesBackWithASyncBrokenOff() {
        Disk x = new Disk(3);
        x.end(0);
        x.sync();
        Check.same("end(0)", x.end(0), FULL);
        x.cut(1, 0);
        x.start();
        Check.same("end(0)", x.end(0), 0);
    }

    static void promise03StaysCollectedBehindFull() {
        Disk x = new Disk(3);
        x.put(0, 40);
        Check.same("12 bytes", x.put(0, 12), FULL);
        Check.same("end(0): a row of no bytes would have room", x.end(0), FULL);
        Check.same("rows()", x.rows(), 1);
        Check.same("sync()", x.sync(), 2);
        Check.same("bytes of rows laid down", x.peek(2, 4), 42);
    }

    static void promise03FullLeavesWhatIsThere() {
        Disk x = new Disk(3);
        x.put(1, 2);
        x.sync();
        String seen = x.look();
        Check.same("end(0)", x.end(0), FULL);
        x.dueLook("end without room", seen);
    }

    private static Disk with300Rows() {
        Disk x = new Disk(40);
        for (int i = 0; i < 300; i++) {
            Check.same("end(" + i % 4 + ")", x.end(i % 4), i);
        }
        return x;
    }

    static void promise03FullAt300Rows() {
        Disk x = with300Rows();
        Check.same("end(0)", x.end(0), FULL);
        Check.same("rows()", x.rows(), 300);
        Check.same("row(299, 0)", x.row(299, 0), 3);
        Check.same("row(300, 0)", x.row(300, 0), NONE);
    }

    static void promise03FullAt300RowsLaidDown() {
        Disk x = with300Rows();
        x.sync();
        Check.same("end(0) behind a sync", x.end(0), FULL);
        x.off();
        Check.same("start()", x.start(), 300);
        Check.same("end(0) behind a start", x.end(0), FULL);
    }

    static void promise03NotFullAt299Rows() {
        Disk x = new Disk(40);
        for (int i = 0; i < 299; i++) {
            x.end(0);
        }
        x.sync();
        x.off();
        Check.same("start()", x.start(), 299);
        Check.same("end(0)", x.end(0), 299);
        Check.same("end(0)", x.end(0), FULL);
    }

    /** A sector spoilt and mended: a start then finds more rows than end would take. */
    static void promise03FullWithMoreThan300Rows() {
        Disk x = with300Rows();
        x.sync();
        x.poke(2, 5, 1);
        x.off();
        Check.same("start() without the 27 rows of sector 2", x.start(), 273);
        for (int i = 273; i < 300; i++) {
            Check.same("end(3)", x.end(3), i);
        }
        x.sync();
        x.poke(2, 5, 1);
        x.off();
        Check.same("start()", x.start(), 327);
        Check.same("end(0)", x.end(0), FULL);
        Check.same("rows()", x.rows(), 327);
        Check.same("row(326, 0)", x.row(326, 0), 3);
        Check.same("row(326, 2)", x.row(326, 2), 14);
    }
}
