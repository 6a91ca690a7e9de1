/** Boundary cases of the promises 4 (sync), 5 (cut) and 6 (off), a test for each sentence. */
public final class Boundaries04To06Test {
    private static final int NONE = Disk.NONE;
    private static final int RANGE = Disk.RANGE;
    private static final int STATE = Disk.STATE;

    public static void main(String[] args) {
        Check.runPromises(Boundaries04To06Test.class, 4, 6);
    }

    static void promise04StateWhileOff() {
        Disk x = new Disk(3);
        x.end(1);
        x.sync();
        x.off();
        String seen = x.look();
        Check.same("sync()", x.sync(), STATE);
        x.dueLook("sync while OFF", seen);
    }

    static void promise04StateBehindACutAndARefusedStart() {
        Disk x = new Disk(3);
        x.sync();
        x.cut(1, 0);
        Check.same("sync() behind a cut", x.sync(), STATE);
        x.poke(0, 0, 1);
        x.poke(1, 0, 1);
        x.start();
        Check.same("sync() behind a start without a head", x.sync(), STATE);
    }

    static void promise04TheFirstSyncHasNumber1() {
        Disk x = new Disk(3);
        x.sync();
        Check.same("state(0)", x.state(0), 1);
        x.dueSector(1, Bytes.head(1, 0));
        x.dueSector(0, new int[64]);
    }

    static void promise04EvenNumbersGoToSector0OddOnesToSector1() {
        Disk x = new Disk(3);
        for (int number = 1; number <= 5; number++) {
            x.sync();
            Check.same("the number in sector 1", x.peek(1, 3), number % 2 == 1 ? number : number - 1);
            Check.same("the number in sector 0", x.peek(0, 3), number % 2 == 0 ? number : number - 1);
        }
    }

    static void promise04NumbersHaveTheHighestByteFirst() {
        Disk x = new Disk(3);
        for (int number = 1; number <= 256; number++) {
            x.sync();
        }
        x.dueSector(0, Bytes.head(256, 0));
        x.dueSector(1, Bytes.head(255, 0));
    }

    static void promise04NumbersHave4Bytes() {
        Disk x = new Disk(3);
        x.off();
        x.forge(1, Bytes.head(0x010203FF, 0));
        x.start();
        x.end(1);
        x.sync();
        Check.same("state(0)", x.state(0), 0x01020400);
        x.dueSector(0, Bytes.head(0x01020400, 1));
        x.dueSector(2, Bytes.log(0x01020400, 2, 1, 0));
    }

    static void promise04WithoutRowsTheHeadAloneIsWritten() {
        Disk x = new Disk(4);
        Check.same("sync() of a new object", x.sync(), 1);
        x.end(2);
        Check.same("sync() of a row", x.sync(), 2);
        Check.same("sync() with nothing new", x.sync(), 1);
        x.dueSector(0, Bytes.head(2, 1));
        x.dueSector(1, Bytes.head(3, 1));
        x.dueSector(2, Bytes.log(2, 2, 2, 0));
        x.dueSector(3, new int[64]);
        Check.same("state(1)", x.state(1), 1);
    }

    static void promise04WithALogThatIsFullTheHeadAloneIsWritten() {
        Disk x = new Disk(3);
        x.end(2);
        x.sync();
        x.end(2);
        Check.same("sync()", x.sync(), 1);
        x.dueSector(0, Bytes.head(2, 1));
        x.dueSector(2, Bytes.log(1, 2, 2, 0));
    }

    static void promise04BytesCollectedAreNoRow() {
        Disk x = new Disk(3);
        x.add(5);
        Check.same("sync()", x.sync(), 1);
        Check.same("end(0): they stay collected", x.end(0), 0);
        Check.same("at(0, 0)", x.at(0, 0), 5);
    }

    static void promise04FiftyFiveBytesHaveRoomInASector() {
        Disk x = new Disk(5);
        x.put(1, 40);
        x.put(2, 11);
        Check.same("sync()", x.sync(), 2);
        Check.same("row(1, 2)", x.row(1, 2), 2);
        x.dueSector(2, Bytes.log(1, 55, Bytes.rows(1, 40, 2, 11)));
    }

    static void promise04FiftySixBytesTakeTwoSectors() {
        Disk x = new Disk(5);
        x.put(1, 40);
        x.put(2, 12);
        Check.same("sync()", x.sync(), 3);
        Check.same("row(0, 2)", x.row(0, 2), 2);
        Check.same("row(1, 2)", x.row(1, 2), 3);
        x.dueSector(2, Bytes.log(1, 42, Bytes.rows(1, 40)));
        x.dueSector(3, Bytes.log(1, 14, Bytes.rows(2, 12)));
        x.dueSector(1, Bytes.head(1, 2));
    }

    static void promise04TwentySevenRowsOfNoBytesHaveRoomInASector() {
        Disk x = new Disk(5);
        for (int i = 0; i < 28; i++) {
            x.end(0);
        }
        Check.same("sync()", x.sync(), 3);
        Check.same("bytes of rows in sector 2", x.peek(2, 4), 54);
        Check.same("bytes of rows in sector 3", x.peek(3, 4), 2);
        Check.same("row(26, 2)", x.row(26, 2), 2);
        Check.same("row(27, 2)", x.row(27, 2), 3);
    }

    static void promise04RowsStayInOrder() {
        Disk x = new Disk(5);
        x.put(0, 30);
        x.put(1, 40);
        x.put(2, 20);
        x.put(3, 3);
        Check.same("sync()", x.sync(), 4);
        int[] sectors = {2, 3, 4, 4};
        for (int i = 0; i < sectors.length; i++) {
            Check.same("row(" + i + ", 2)", x.row(i, 2), sectors[i]);
        }
        x.dueSector(4, Bytes.log(1, 27, Bytes.rows(2, 20, 3, 3)));
    }

    static void promise04BehindTheSectorsOfTheLatestHead() {
        Disk x = new Disk(5);
        x.end(1);
        x.sync();
        x.end(2);
        Check.same("sync()", x.sync(), 2);
        x.dueSector(2, Bytes.log(1, 2, 1, 0));
        x.dueSector(3, Bytes.log(2, 2, 2, 0));
        x.dueSector(0, Bytes.head(2, 2));
        x.dueSector(1, Bytes.head(1, 1));
    }

    static void promise04BehindTheSectorsOfTheHeadThatWasRead() {
        Disk x = new Disk(5);
        x.end(1);
        x.sync();
        x.end(2);
        x.sync();
        x.cut(1, 0);
        x.start();
        x.end(3);
        Check.same("sync()", x.sync(), 2);
        x.dueSector(3, Bytes.log(2, 2, 3, 0));
        x.dueSector(0, Bytes.head(2, 2));
    }

    static void promise04TheLastSectorIsUsed() {
        Disk x = new Disk(4);
        x.put(1, 40);
        x.put(2, 40);
        Check.same("sync()", x.sync(), 3);
        Check.same("row(1, 2)", x.row(1, 2), 3);
        x.dueSector(3, Bytes.log(1, 42, Bytes.rows(2, 40)));
        x.dueSector(1, Bytes.head(1, 2));
    }

    static void promise04Then0sWhateverWasThere() {
        Disk x = new Disk(3);
        for (int sector = 1; sector <= 2; sector++) {
            for (int i = 0; i < 64; i++) {
                x.poke(sector, i, 0xAA);
            }
        }
        x.end(1);
        x.sync();
        x.dueSector(1, Bytes.head(1, 1));
        x.dueSector(2, Bytes.log(1, 2, 1, 0));
    }

    static void promise04Then0sBehindASyncBrokenOff() {
        Disk x = new Disk(4);
        x.put(1, 40);
        x.sync();
        x.cut(1, 0);
        x.start();
        x.put(2, 3);
        x.sync();
        x.dueSector(2, Bytes.log(1, 5, Bytes.rows(2, 3)));
        x.dueSector(1, Bytes.head(1, 1));
    }

    static void promise04SumsAreRightWhateverWasThere() {
        Disk x = new Disk(4);
        x.poke(1, 63, 7);
        x.poke(2, 60, 7);
        x.poke(3, 0, 7);
        x.put(3, 40);
        x.sync();
        Check.same("wrong(0): neither the head nor the sector of the log", x.wrong(0), 3);
        Check.same("wrong(1)", x.wrong(1), NONE);
    }

    static void promise05StateWhileOff() {
        Disk x = new Disk(3);
        x.end(1);
        x.sync();
        x.off();
        String seen = x.look();
        Check.same("cut(0, 0)", x.cut(0, 0), STATE);
        Check.same("cut(2, 64)", x.cut(2, 64), STATE);
        x.dueLook("cut while OFF", seen);
    }

    static void promise05StateBehindACut() {
        Disk x = new Disk(3);
        x.sync();
        x.cut(1, 0);
        Check.same("cut(0, 0)", x.cut(0, 0), STATE);
        x.dueSector(1, Bytes.head(1, 0));
    }

    static void promise05StateWithoutASync() {
        Disk x = new Disk(3);
        x.end(1);
        Check.same("cut(0, 0)", x.cut(0, 0), STATE);
        Check.same("state(2)", x.state(2), 1);
        Check.same("rows()", x.rows(), 1);
    }

    static void promise05StateWithoutASyncSinceTheLatestStart() {
        Disk x = new Disk(4);
        x.end(1);
        x.sync();
        x.off();
        x.start();
        x.end(2);
        Check.same("cut(0, 0)", x.cut(0, 0), STATE);
        Check.same("state(2)", x.state(2), 1);
        Check.same("rows()", x.rows(), 2);
        x.sync();
        Check.same("cut(0, 0) behind a sync", x.cut(0, 0), 1);
        x.start();
        Check.same("cut(0, 0) behind the next start", x.cut(0, 0), STATE);
    }

    private static void dueRange(Disk x, int keep, int torn) {
        Check.same("cut(" + keep + ", " + torn + ")", x.cut(keep, torn), RANGE);
    }

    static void promise05RangeOfKeep() {
        Disk x = new Disk(3);
        x.end(1);
        x.sync();
        String seen = x.look();
        dueRange(x, -1, 0);
        dueRange(x, 3, 0);
        dueRange(x, 3, 64);
        dueRange(x, Integer.MIN_VALUE, 0);
        dueRange(x, Integer.MAX_VALUE, 0);
        x.dueLook("cut with a keep that can't be", seen);
    }

    static void promise05RangeOfTorn() {
        Disk x = new Disk(3);
        x.end(1);
        x.sync();
        String seen = x.look();
        for (int keep = 0; keep <= 2; keep++) {
            dueRange(x, keep, -1);
            dueRange(x, keep, 65);
            dueRange(x, keep, Integer.MIN_VALUE);
            dueRange(x, keep, Integer.MAX_VALUE);
        }
        x.dueLook("cut with a torn that can't be", seen);
    }

    static void promise05RangeOfTheWritesOfTheLatestSync() {
        Disk x = new Disk(5);
        x.put(0, 40);
        x.put(0, 40);
        Check.same("sync()", x.sync(), 3);
        Check.same("sync()", x.sync(), 1);
        dueRange(x, 2, 0);
        Check.same("cut(1, 0)", x.cut(1, 0), 1);
    }

    static void promise05RefusedLeavesWhatIsCollected() {
        Disk x = new Disk(3);
        x.add(1);
        x.cut(0, 0);
        x.sync();
        x.cut(2, 0);
        x.cut(0, 65);
        x.end(0);
        Check.same("row(0, 1)", x.row(0, 1), 1);
    }

    /** A sync of a sector of the log and a head, in sectors that were not all 0. */
    private static Disk twoWrites() {
        Disk x = new Disk(4);
        x.poke(2, 0, 9);
        x.poke(2, 63, 9);
        x.poke(1, 0, 9);
        x.poke(1, 63, 9);
        x.put(3, 40);
        Check.same("sync()", x.sync(), 2);
        return x;
    }

    private static void dueTwoWrites(Disk x, int ofLog, int ofHead) {
        int[] before = new int[64];
        before[0] = 9;
        before[63] = 9;
        x.dueSector(2, Bytes.torn(before, Bytes.log(1, 42, Bytes.rows(3, 40)), ofLog));
        x.dueSector(1, Bytes.torn(before, Bytes.head(1, 1), ofHead));
        x.dueSector(0, new int[64]);
        x.dueSector(3, new int[64]);
    }

    static void promise05Keep0Torn0NothingIsDone() {
        Disk x = twoWrites();
        Check.same("cut(0, 0)", x.cut(0, 0), 1);
        dueTwoWrites(x, 0, 0);
    }

    static void promise05Keep0Torn1OneByteIsDone() {
        Disk x = twoWrites();
        Check.same("cut(0, 1)", x.cut(0, 1), 1);
        dueTwoWrites(x, 1, 0);
    }

    static void promise05Keep0Torn63AllBytesButOneAreDone() {
        Disk x = twoWrites();
        Check.same("cut(0, 63)", x.cut(0, 63), 1);
        dueTwoWrites(x, 63, 0);
    }

    static void promise05Keep0Torn64AllBytesOfTheFirstWriteAreDone() {
        Disk x = twoWrites();
        Check.same("cut(0, 64)", x.cut(0, 64), 1);
        dueTwoWrites(x, 64, 0);
    }

    static void promise05Keep1Torn0TheHeadIsNotDone() {
        Disk x = twoWrites();
        Check.same("cut(1, 0)", x.cut(1, 0), 1);
        dueTwoWrites(x, 64, 0);
    }

    static void promise05Keep1Torn63TheHeadIsNotWhole() {
        Disk x = twoWrites();
        Check.same("cut(1, 63)", x.cut(1, 63), 1);
        dueTwoWrites(x, 64, 63);
        Check.same("start()", x.start(), 0);
    }

    static void promise05Keep1Torn64AllBytesOfTheHeadAreDone() {
        Disk x = twoWrites();
        Check.same("cut(1, 64)", x.cut(1, 64), 1);
        dueTwoWrites(x, 64, 64);
        Check.same("start()", x.start(), 1);
    }

    static void promise05KeepOfAllWritesLeavesNoneToBeTorn() {
        int[] torn = {0, 1, 63, 64};
        for (int t : torn) {
            Disk x = twoWrites();
            Check.same("cut(2, " + t + ")", x.cut(2, t), 1);
            dueTwoWrites(x, 64, 64);
            Check.same("start()", x.start(), 1);
        }
    }

    static void promise05SyncWithoutRowsHasOneWrite() {
        Disk x = new Disk(3);
        x.sync();
        x.sync();
        x.sync();
        dueRange(x, 2, 0);
        Check.same("cut(0, 4)", x.cut(0, 4), 1);
        x.dueSector(0, Bytes.head(2, 0));
        x.dueSector(1, Bytes.torn(Bytes.head(1, 0), Bytes.head(3, 0), 4));
        x.start();
        Check.same("state(0)", x.state(0), 2);
    }

    static void promise05SyncOfThreeWrites() {
        int[][] now = {Bytes.log(1, 42, Bytes.rows(1, 40)), Bytes.log(1, 14, Bytes.rows(2, 12)), Bytes.head(1, 2)};
        int[] sectors = {2, 3, 1};
        for (int keep = 0; keep <= 3; keep++) {
            Disk x = new Disk(5);
            x.put(1, 40);
            x.put(2, 12);
            Check.same("sync()", x.sync(), 3);
            dueRange(x, 4, 0);
            Check.same("cut(" + keep + ", 7)", x.cut(keep, 7), 1);
            for (int write = 0; write < 3; write++) {
                int done = write < keep ? 64 : write == keep ? 7 : 0;
                x.dueSector(sectors[write], Bytes.torn(new int[64], now[write], done));
            }
            Check.same("start()", x.start(), keep == 3 ? 2 : 0);
        }
    }

    static void promise05OnlyTheLatestSyncIsBrokenOff() {
        Disk x = new Disk(5);
        x.end(1);
        x.sync();
        x.end(2);
        x.sync();
        x.cut(0, 0);
        x.dueSector(2, Bytes.log(1, 2, 1, 0));
        x.dueSector(1, Bytes.head(1, 1));
        x.dueSector(3, new int[64]);
        x.dueSector(0, new int[64]);
        Check.same("start()", x.start(), 1);
    }

    static void promise05BytesPokedBeforeTheSyncComeBack() {
        Disk x = new Disk(4);
        x.sync();
        x.poke(0, 40, 3);
        x.poke(2, 41, 4);
        x.end(1);
        x.sync();
        Check.same("peek(0, 40)", x.peek(0, 40), 0);
        Check.same("peek(2, 41)", x.peek(2, 41), 0);
        x.cut(0, 20);
        Check.same("peek(0, 40)", x.peek(0, 40), 3);
        Check.same("peek(2, 41)", x.peek(2, 41), 4);
    }

    /** Pokes in the first bytes and the last ones of both writes and of two other sectors. */
    private static Disk pokedSinceTheSync() {
        Disk x = new Disk(4);
        x.end(1);
        x.sync();
        for (int sector = 0; sector < 4; sector++) {
            x.poke(sector, 0, 0x80);
            x.poke(sector, 8, 0x80);
            x.poke(sector, 50, 0x80);
        }
        return x;
    }

    private static void duePokes(Disk x, int sector, int want) {
        Check.same("peek(" + sector + ", 0)", x.peek(sector, 0), want);
        Check.same("peek(" + sector + ", 8)", x.peek(sector, 8), want);
        Check.same("peek(" + sector + ", 50)", x.peek(sector, 50), want);
    }

    static void promise05BytesPokedAreGoneIfTheWriteIsNotDone() {
        Disk x = pokedSinceTheSync();
        x.cut(0, 0);
        duePokes(x, 2, 0);
        duePokes(x, 1, 0);
    }

    static void promise05BytesPokedAreGoneIfTheWriteIsNotWhole() {
        Disk x = pokedSinceTheSync();
        x.cut(0, 30);
        duePokes(x, 2, 0);
        Disk y = pokedSinceTheSync();
        y.cut(1, 63);
        duePokes(y, 1, 0);
    }

    static void promise05BytesPokedStayIfTheWriteIsDone() {
        Disk x = pokedSinceTheSync();
        x.cut(1, 30);
        duePokes(x, 2, 0x80);
        duePokes(x, 1, 0);
        Disk y = pokedSinceTheSync();
        y.cut(2, 30);
        duePokes(y, 2, 0x80);
        duePokes(y, 1, 0x80);
    }

    static void promise05BytesPokedStayInOtherSectors() {
        Disk x = pokedSinceTheSync();
        x.cut(0, 0);
        duePokes(x, 0, 0x80);
        duePokes(x, 3, 0x80);
    }

    static void promise05RowsNotLaidDownAreGone() {
        Disk x = new Disk(5);
        x.end(1);
        x.sync();
        x.end(2);
        x.cut(2, 0);
        Check.same("rows()", x.rows(), 0);
        Check.same("start()", x.start(), 1);
        Check.same("sync(): no row is to be laid down", x.sync(), 1);
    }

    static void promise05WhatIsCollectedIsGone() {
        Disk x = new Disk(5);
        x.sync();
        x.add(1);
        x.cut(1, 0);
        x.start();
        x.end(2);
        Check.same("row(0, 1)", x.row(0, 1), 0);
    }

    static void promise05TheDiskIsOff() {
        Disk x = new Disk(3);
        x.sync();
        x.cut(1, 64);
        Check.same("state(2)", x.state(2), 0);
        Check.same("off()", x.off(), STATE);
    }

    static void promise06StateWhileOff() {
        Disk x = new Disk(3);
        x.end(1);
        x.sync();
        x.off();
        String seen = x.look();
        Check.same("off()", x.off(), STATE);
        x.dueLook("off while OFF", seen);
    }

    static void promise06StateLeavesWhatIsCollected() {
        Disk x = new Disk(3);
        x.off();
        x.add(1);
        x.off();
        x.start();
        x.end(0);
        Check.same("row(0, 1)", x.row(0, 1), 1);
    }

    static void promise06WithoutRowsNotLaidDown() {
        Disk x = new Disk(3);
        Check.same("off() of a new object", x.off(), 0);
        x.start();
        x.end(0);
        x.end(0);
        x.sync();
        Check.same("off() with all rows laid down", x.off(), 0);
        x.start();
        Check.same("off() behind a start", x.off(), 0);
    }

    static void promise06OnlyRowsNotLaidDownAreCounted() {
        Disk x = new Disk(5);
        x.end(0);
        x.end(0);
        x.sync();
        x.end(0);
        x.add(1);
        Check.same("off()", x.off(), 1);
        Check.same("start()", x.start(), 2);
    }

    static void promise06ManyRowsNotLaidDown() {
        Disk x = new Disk(40);
        for (int i = 0; i < 300; i++) {
            x.end(0);
        }
        Check.same("off()", x.off(), 300);
        Check.same("start()", x.start(), 0);
    }

    static void promise06BytesCollectedAreNoRowAndAreGone() {
        Disk x = new Disk(3);
        x.add(1);
        Check.same("off()", x.off(), 0);
        x.start();
        x.end(0);
        Check.same("row(0, 1)", x.row(0, 1), 0);
    }

    static void promise06SectorsStay() {
        Disk x = new Disk(4);
        x.end(1);
        x.sync();
        x.end(2);
        x.poke(3, 3, 3);
        x.off();
        x.dueSector(0, new int[64]);
        x.dueSector(1, Bytes.head(1, 1));
        x.dueSector(2, Bytes.log(1, 2, 1, 0));
        Check.same("peek(3, 3)", x.peek(3, 3), 3);
        Check.same("state(2)", x.state(2), 0);
    }
}
