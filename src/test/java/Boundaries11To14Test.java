/** Boundary cases of the promises 11 (poke), 12 (peek), 13 (wrong) and 14 (bad), a test for each sentence. */
public final class Boundaries11To14Test {
    private static final int NONE = Disk.NONE;
    private static final int STATE = Disk.STATE;

    public static void main(String[] args) {
        Check.runPromises(Boundaries11To14Test.class, 11, 14);
    }

    /** Places that no disk of 3 sectors has. */
    private static final int[][] NO_PLACES = {
        {-1, 0}, {3, 0}, {4, 63}, {0, -1}, {0, 64}, {2, 64}, {1, -64}, {-1, 64}, {3, -64}, {1 << 26, 0},
        {Integer.MIN_VALUE, 0}, {Integer.MAX_VALUE, 0}, {0, Integer.MIN_VALUE}, {0, Integer.MAX_VALUE},
        {Integer.MIN_VALUE, Integer.MIN_VALUE}, {Integer.MAX_VALUE, Integer.MAX_VALUE},
    };

    static void promise11NoneIfThereIsNoSuchByte() {
        Disk x = new Disk(3);
        x.sync();
        String seen = x.look();
        for (int[] place : NO_PLACES) {
            Check.same("poke(" + place[0] + ", " + place[1] + ", 1)", x.poke(place[0], place[1], 1), NONE);
        }
        x.dueLook("poke of no byte", seen);
    }

    static void promise11NoneBehindTheLastOf40Sectors() {
        Disk x = new Disk(40);
        Check.same("poke(39, 63, 1)", x.poke(39, 63, 1), 1);
        Check.same("poke(40, 0, 1)", x.poke(40, 0, 1), NONE);
    }

    static void promise11FirstAndLastByte() {
        Disk x = new Disk(3);
        int[][] places = {{0, 0}, {0, 63}, {1, 0}, {1, 63}, {2, 0}, {2, 63}};
        for (int[] place : places) {
            Check.same("poke(" + place[0] + ", " + place[1] + ", 5)", x.poke(place[0], place[1], 5), 5);
        }
        for (int sector = 0; sector < 3; sector++) {
            int[] want = new int[64];
            want[0] = 5;
            want[63] = 5;
            x.dueSector(sector, want);
        }
    }

    static void promise11LowestEightBitsOfTheMask() {
        Disk x = new Disk(3);
        Check.same("poke(2, 9, 0)", x.poke(2, 9, 0), 0);
        Check.same("poke(2, 9, 255)", x.poke(2, 9, 255), 255);
        Check.same("poke(2, 9, 256)", x.poke(2, 9, 256), 255);
        Check.same("poke(2, 9, 0x1F0)", x.poke(2, 9, 0x1F0), 15);
        Check.same("poke(2, 9, -1)", x.poke(2, 9, -1), 240);
        Check.same("poke(2, 9, min)", x.poke(2, 9, Integer.MIN_VALUE), 240);
        Check.same("poke(2, 9, max)", x.poke(2, 9, Integer.MAX_VALUE), 15);
        int[] want = new int[64];
        want[9] = 15;
        x.dueSector(2, want);
    }

    static void promise11AnswersFrom0To255() {
        Disk x = new Disk(3);
        Check.same("poke(0, 0, 127)", x.poke(0, 0, 127), 127);
        Check.same("poke(0, 0, 255)", x.poke(0, 0, 255), 128);
        Check.same("poke(0, 0, 127)", x.poke(0, 0, 127), 255);
        Check.same("poke(0, 0, 255)", x.poke(0, 0, 255), 0);
    }

    static void promise11RowsThatWereReadStay() {
        Disk x = new Disk(3);
        x.put(1, 2);
        x.sync();
        x.off();
        x.start();
        x.poke(2, 5, 1);
        x.poke(2, 6, 1);
        x.poke(2, 7, 1);
        x.poke(1, 7, 1);
        Check.same("rows()", x.rows(), 1);
        Check.same("row(0, 0)", x.row(0, 0), 1);
        Check.same("row(0, 1)", x.row(0, 1), 2);
        Check.same("at(0, 0)", x.at(0, 0), 100);
        Check.same("state(1)", x.state(1), 1);
    }

    static void promise11WhileOff() {
        Disk x = new Disk(3);
        x.off();
        Check.same("poke(2, 63, 3)", x.poke(2, 63, 3), 3);
        Check.same("peek(2, 63)", x.peek(2, 63), 3);
        Check.same("poke(3, 0, 3)", x.poke(3, 0, 3), NONE);
    }

    static void promise12NoneIfThereIsNoSuchByte() {
        Disk x = new Disk(3);
        for (int[] place : NO_PLACES) {
            Check.same("peek(" + place[0] + ", " + place[1] + ")", x.peek(place[0], place[1]), NONE);
        }
    }

    static void promise12FirstAndLastByte() {
        Disk x = new Disk(3);
        x.poke(0, 0, 11);
        x.poke(2, 63, 12);
        Check.same("peek(0, 0)", x.peek(0, 0), 11);
        Check.same("peek(0, 63)", x.peek(0, 63), 0);
        Check.same("peek(1, 0)", x.peek(1, 0), 0);
        Check.same("peek(2, 63)", x.peek(2, 63), 12);
    }

    static void promise12NoneBehindTheLastOf40Sectors() {
        Disk x = new Disk(40);
        x.poke(39, 63, 7);
        Check.same("peek(39, 63)", x.peek(39, 63), 7);
        Check.same("peek(40, 0)", x.peek(40, 0), NONE);
    }

    static void promise12BytesFrom0To255() {
        Disk x = new Disk(3);
        int[] masks = {127, 255, 127, 255};
        int[] want = {127, 128, 255, 0};
        for (int k = 0; k < 4; k++) {
            x.poke(1, 1, masks[k]);
            Check.same("peek(1, 1)", x.peek(1, 1), want[k]);
        }
    }

    static void promise12WhileOff() {
        Disk x = new Disk(3);
        x.sync();
        x.off();
        Check.same("peek(1, 3)", x.peek(1, 3), 1);
        Check.same("peek(1, 64)", x.peek(1, 64), NONE);
    }

    static void promise13ASectorOf0sHasItsSum() {
        Check.same("wrong(0)", new Disk(3).wrong(0), NONE);
        Check.same("wrong(0)", new Disk(40).wrong(0), NONE);
    }

    static void promise13NoneOfNumbersThatCantBe() {
        Disk x = new Disk(4);
        x.poke(1, 0, 1);
        x.poke(3, 0, 1);
        Check.same("wrong(0)", x.wrong(0), 1);
        Check.same("wrong(1)", x.wrong(1), 3);
        int[] others = {-1, 2, 3, 4, 40, Integer.MIN_VALUE, Integer.MAX_VALUE};
        for (int i : others) {
            Check.same("wrong(" + i + ")", x.wrong(i), NONE);
        }
    }

    static void promise13AllSectorsMayBeWrong() {
        Disk x = new Disk(40);
        for (int sector = 0; sector < 40; sector++) {
            x.poke(sector, sector, 1);
        }
        for (int i = 0; i < 40; i++) {
            Check.same("wrong(" + i + ")", x.wrong(i), i);
        }
        Check.same("wrong(40)", x.wrong(40), NONE);
        Check.same("wrong(-1)", x.wrong(-1), NONE);
    }

    static void promise13EachByteCountsForTheSum() {
        Disk x = new Disk(3);
        for (int i = 0; i < 64; i++) {
            x.poke(2, i, 128);
            Check.same("wrong(0) with byte " + i + " spoilt", x.wrong(0), 2);
            x.poke(2, i, 128);
            Check.same("wrong(0) with byte " + i + " mended", x.wrong(0), NONE);
        }
    }

    static void promise13TheSumIsInTheLastFourBytesHighestFirst() {
        Disk x = new Disk(3);
        x.forge(2, Bytes.log(1, 42, Bytes.rows(1, 40)));
        Check.same("wrong(0)", x.wrong(0), NONE);
        int highest = x.peek(2, 60);
        int lowest = x.peek(2, 63);
        x.poke(2, 60, highest ^ lowest);
        x.poke(2, 63, highest ^ lowest);
        Check.same("wrong(0) with two bytes of the sum changed round", x.wrong(0), 2);
    }

    static void promise13TheSumOfTheGreatestBytes() {
        Disk x = new Disk(3);
        int[] sector = new int[64];
        java.util.Arrays.fill(sector, 255);
        Bytes.putNumber(sector, 60, Bytes.sum(sector));
        x.forge(0, sector);
        Check.same("wrong(0)", x.wrong(0), NONE);
        x.poke(0, 59, 255);
        Check.same("wrong(0)", x.wrong(0), 0);
    }

    static void promise13WhileOff() {
        Disk x = new Disk(3);
        x.poke(0, 5, 1);
        x.off();
        Check.same("wrong(0)", x.wrong(0), 0);
        Check.same("wrong(1)", x.wrong(1), NONE);
    }

    static void promise14ZeroWithoutAStart() {
        Disk x = new Disk(3);
        Check.same("bad() of a new object", x.bad(), 0);
        x.end(1);
        x.sync();
        x.poke(2, 0, 1);
        Check.same("bad() with a wrong sum", x.bad(), 0);
        x.off();
        Check.same("bad() before the start", x.bad(), 0);
    }

    static void promise14OnlyTheLatestStartCounts() {
        Disk x = new Disk(5);
        x.end(0);
        x.sync();
        x.end(1);
        x.sync();
        x.poke(2, 9, 1);
        x.poke(3, 9, 1);
        x.off();
        Check.same("start()", x.start(), 0);
        Check.same("bad()", x.bad(), 2);
        x.poke(2, 9, 1);
        Check.same("bad() with a sector mended", x.bad(), 2);
        x.off();
        Check.same("bad() while OFF", x.bad(), 2);
        Check.same("start()", x.start(), 1);
        Check.same("bad()", x.bad(), 1);
        x.poke(3, 9, 1);
        x.off();
        Check.same("start()", x.start(), 2);
        Check.same("bad()", x.bad(), 0);
    }

    static void promise14ARefusedStartIsNone() {
        Disk x = new Disk(4);
        x.end(0);
        x.sync();
        x.poke(2, 9, 1);
        x.off();
        x.start();
        x.poke(2, 9, 1);
        Check.same("start() while ON", x.start(), STATE);
        Check.same("bad()", x.bad(), 1);
        x.off();
        x.poke(0, 0, 1);
        x.poke(1, 0, 1);
        Check.same("start() without a head", x.start(), STATE);
        Check.same("bad()", x.bad(), 1);
    }

    static void promise14OnlySectorsThatBelongToTheHeadCount() {
        Disk x = new Disk(4);
        x.end(0);
        x.sync();
        x.poke(3, 9, 1);
        x.poke(0, 9, 1);
        x.off();
        Check.same("start()", x.start(), 1);
        Check.same("bad()", x.bad(), 0);
        x.end(0);
        x.sync();
        x.cut(1, 9);
        x.poke(3, 9, 1);
        Check.same("start()", x.start(), 1);
        Check.same("bad() with the sector of a sync broken off", x.bad(), 0);
    }

    static void promise14HeadsDoNotCount() {
        for (int head = 0; head < 2; head++) {
            Disk x = new Disk(4);
            x.end(0);
            x.sync();
            x.sync();
            x.poke(head, 9, 1);
            x.off();
            Check.same("start()", x.start(), 1);
            Check.same("bad() with head " + head + " spoilt", x.bad(), 0);
        }
    }

    static void promise14AllSectorsMayBeBad() {
        Disk x = new Disk(40);
        for (int i = 0; i < 38; i++) {
            x.end(0);
            x.sync();
            x.poke(2 + i, 4, 1);
        }
        x.off();
        Check.same("start()", x.start(), 0);
        Check.same("bad()", x.bad(), 38);
    }

    /** Sector 2 of a log of two is as told: it is BAD (rows NONE), or so many rows are read of it. */
    private static Disk dueForm(int[] sector, int rows) {
        Disk x = new Disk(5);
        x.end(2);
        x.sync();
        x.end(1);
        x.sync();
        x.forge(2, sector);
        x.off();
        Check.same("start()", x.start(), Math.max(rows, 0) + 1);
        Check.same("bad()", x.bad(), rows == NONE ? 1 : 0);
        Check.same("row(.., 2) of the row behind", x.row(Math.max(rows, 0), 2), 3);
        return x;
    }

    static void promise14BadIfTheSumIsWrong() {
        for (int i = 60; i < 64; i++) {
            int[] sector = Bytes.log(1, 2, 2, 0);
            sector[i] ^= 1;
            dueForm(sector, NONE);
        }
        int[] number = Bytes.log(1, 2, 2, 0);
        number[0] ^= 1;
        dueForm(number, NONE);
        int[] behind = Bytes.log(1, 2, 2, 0);
        behind[59] ^= 1;
        dueForm(behind, NONE);
    }

    static void promise14NotBadWithoutRows() {
        dueForm(Bytes.log(1, 0), 0);
        dueForm(new int[64], 0);
    }

    static void promise14Kinds() {
        Disk x = dueForm(Bytes.log(1, 4, 0, 0, 3, 0), 2);
        Check.same("row(1, 0)", x.row(1, 0), 3);
        dueForm(Bytes.log(1, 2, 4, 0), NONE);
        dueForm(Bytes.log(1, 2, 128, 0), NONE);
        dueForm(Bytes.log(1, 2, 255, 0), NONE);
        dueForm(Bytes.log(1, 4, 3, 0, 4, 0), NONE);
    }

    static void promise14Sizes() {
        Disk x = dueForm(Bytes.log(1, 42, Bytes.rows(3, 40)), 1);
        Check.same("row(0, 1)", x.row(0, 1), 40);
        Check.same("at(0, 39)", x.at(0, 39), 139);
        dueForm(Bytes.log(1, 43, Bytes.rows(3, 41)), NONE);
        dueForm(Bytes.log(1, 55, Bytes.rows(3, 53)), NONE);
        dueForm(Bytes.log(1, 2, 3, 128), NONE);
        dueForm(Bytes.log(1, 2, 3, 255), NONE);
        dueForm(Bytes.log(1, 2, 3, 254), NONE);
    }

    static void promise14JustSoManyBytes() {
        dueForm(Bytes.log(1, 5, 3, 3, 9, 9, 9), 1);
        dueForm(Bytes.log(1, 4, 3, 3, 9, 9, 9), NONE);
        dueForm(Bytes.log(1, 6, 3, 3, 9, 9, 9), NONE);
        dueForm(Bytes.log(1, 7, 3, 3, 9, 9, 9), 2);
        dueForm(Bytes.log(1, 1, 3), NONE);
        dueForm(Bytes.log(1, 1, 3, 0), NONE);
        dueForm(Bytes.log(1, 2, Bytes.rows(3, 40)), NONE);
        // Behind the row that is too long there is one more, which would reach out of the sector.
        int[] sector = Bytes.log(1, 2, Bytes.rows(3, 40, 2, 11));
        sector[48] = 40;
        Bytes.putNumber(sector, 60, Bytes.sum(sector));
        dueForm(sector, NONE);
    }

    static void promise14AtMost55Bytes() {
        dueForm(Bytes.log(1, 55, Bytes.rows(3, 40, 2, 11)), 2);
        dueForm(Bytes.log(1, 54, Bytes.rows(3, 40, 2, 10)), 2);
        dueForm(Bytes.log(1, 56, Bytes.rows(3, 40, 2, 10)), NONE);
        // 56 bytes of whole rows, if the first byte of the sum were taken for one of them.
        int[] sector = Bytes.log(1, 56, Bytes.rows(3, 40, 2, 10));
        sector[48] = 12;
        Bytes.putNumber(sector, 60, Bytes.sum(sector));
        dueForm(sector, NONE);
        dueForm(Bytes.log(1, 128), NONE);
        dueForm(Bytes.log(1, 255), NONE);
    }

    static void promise14ManyRowsInASector() {
        int[] rows = new int[55];
        dueForm(Bytes.log(1, 54, rows), 27);
        dueForm(Bytes.log(1, 55, rows), NONE);
        rows[53] = 1;
        rows[52] = 1;
        Disk x = dueForm(Bytes.log(1, 55, rows), 27);
        Check.same("row(26, 0)", x.row(26, 0), 1);
        Check.same("row(26, 1)", x.row(26, 1), 1);
    }

    static void promise14NotBadByWhatTheDocumentDoesNotName() {
        dueForm(Bytes.log(77, 5, 3, 1, 9, 0, 0), 2);
        dueForm(Bytes.log(1, 2, 3, 0, 9, 9, 9), 1);
    }

    static void promise14NoRowOfABadSectorIsRead() {
        Disk x = dueForm(Bytes.log(1, 6, 3, 0, 3, 0, 4, 0), NONE);
        Check.same("rows()", x.rows(), 1);
        Check.same("row(0, 0)", x.row(0, 0), 1);
    }
}
