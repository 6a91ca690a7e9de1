/** Boundary cases of the promises 15 (backup), 16 (restore), 17 (differ) and 18 (state), a test for each sentence. */
public final class Boundaries15To18Test {
    private static final int NONE = Disk.NONE;
    private static final int STATE = Disk.STATE;

    public static void main(String[] args) {
        Check.runPromises(Boundaries15To18Test.class, 15, 18);
    }

    static void promise15StateWhileOff() {
        Disk x = new Disk(3);
        x.off();
        Check.same("backup()", x.backup(), STATE);
        Check.same("differ(): none was kept", x.differ(), NONE);
        Check.same("restore()", x.restore(), STATE);
    }

    static void promise15StateLeavesTheBackupBefore() {
        Disk x = new Disk(3);
        x.backup();
        x.poke(2, 9, 9);
        x.off();
        Check.same("backup()", x.backup(), STATE);
        Check.same("differ()", x.differ(), 1);
        x.restore();
        Check.same("peek(2, 9)", x.peek(2, 9), 0);
    }

    static void promise15StateBehindARefusedStart() {
        Disk x = new Disk(3);
        x.off();
        x.poke(0, 0, 1);
        x.poke(1, 0, 1);
        x.start();
        Check.same("backup()", x.backup(), STATE);
    }

    static void promise15WithoutASyncTheNumberIs0() {
        Disk x = new Disk(3);
        Check.same("backup()", x.backup(), 0);
        Check.same("differ()", x.differ(), 0);
    }

    static void promise15TheNumberOfTheLatestSync() {
        Disk x = new Disk(3);
        x.sync();
        Check.same("backup()", x.backup(), 1);
        Check.same("backup()", x.backup(), 1);
        x.sync();
        Check.same("backup()", x.backup(), 2);
        x.sync();
        x.cut(0, 0);
        x.start();
        Check.same("backup() behind the start", x.backup(), 2);
    }

    static void promise15InPlaceOfTheOneBefore() {
        Disk x = new Disk(3);
        x.poke(0, 0, 1);
        x.backup();
        x.poke(0, 0, 3);
        x.poke(2, 63, 4);
        x.backup();
        x.poke(0, 0, 7);
        x.off();
        x.restore();
        Check.same("peek(0, 0)", x.peek(0, 0), 2);
        Check.same("peek(2, 63)", x.peek(2, 63), 4);
    }

    static void promise15SectorsAsTheyAreNow() {
        Disk x = new Disk(4);
        x.end(1);
        x.sync();
        x.end(2);
        x.backup();
        x.sync();
        x.off();
        x.restore();
        x.dueSector(0, new int[64]);
        x.dueSector(1, Bytes.head(1, 1));
        x.dueSector(2, Bytes.log(1, 2, 1, 0));
        x.dueSector(3, new int[64]);
        Check.same("start(): a row not laid down was not kept", x.start(), 1);
    }

    static void promise15LeavesRowsAndWhatIsCollected() {
        Disk x = new Disk(3);
        x.end(1);
        x.add(4);
        x.backup();
        Check.same("rows()", x.rows(), 1);
        x.end(2);
        Check.same("row(1, 1)", x.row(1, 1), 1);
        Check.same("sync()", x.sync(), 2);
    }

    static void promise16StateWhileOn() {
        Disk x = new Disk(3);
        Check.same("restore() without a backup", x.restore(), STATE);
        x.backup();
        x.end(1);
        x.sync();
        String seen = x.look();
        Check.same("restore()", x.restore(), STATE);
        x.dueLook("restore while ON", seen);
    }

    static void promise16StateWithoutABackup() {
        Disk x = new Disk(3);
        x.end(1);
        x.sync();
        x.off();
        String seen = x.look();
        Check.same("restore()", x.restore(), STATE);
        x.dueLook("restore without a backup", seen);
        Check.same("start()", x.start(), 1);
    }

    static void promise16AllSectors() {
        Disk x = new Disk(40);
        for (int sector = 0; sector < 40; sector++) {
            x.poke(sector, 0, sector);
            x.poke(sector, 63, 100 + sector);
        }
        x.backup();
        for (int sector = 0; sector < 40; sector++) {
            x.poke(sector, 0, 255);
            x.poke(sector, 63, 255);
        }
        x.off();
        Check.same("restore()", x.restore(), 1);
        for (int sector = 0; sector < 40; sector++) {
            Check.same("peek(" + sector + ", 0)", x.peek(sector, 0), sector);
            Check.same("peek(" + sector + ", 63)", x.peek(sector, 63), 100 + sector);
        }
    }

    static void promise16StaysOffAndTheBackupStays() {
        Disk x = new Disk(3);
        x.backup();
        x.poke(1, 1, 1);
        x.off();
        Check.same("restore()", x.restore(), 1);
        Check.same("state(2)", x.state(2), 0);
        Check.same("rows()", x.rows(), 0);
        x.poke(1, 1, 1);
        Check.same("restore() once more", x.restore(), 1);
        Check.same("peek(1, 1)", x.peek(1, 1), 0);
    }

    static void promise16BehindACutAndARefusedStart() {
        Disk x = new Disk(4);
        x.end(1);
        x.sync();
        x.backup();
        x.sync();
        x.cut(0, 3);
        x.poke(0, 0, 1);
        x.poke(1, 0, 1);
        Check.same("start()", x.start(), STATE);
        Check.same("restore()", x.restore(), 1);
        Check.same("start()", x.start(), 1);
        Check.same("state(0)", x.state(0), 1);
    }

    static void promise16ABackupOfSpoiltHeads() {
        Disk x = new Disk(3);
        x.poke(0, 0, 1);
        x.poke(1, 0, 1);
        x.backup();
        x.off();
        x.poke(0, 0, 1);
        Check.same("restore()", x.restore(), 1);
        Check.same("start()", x.start(), STATE);
    }

    static void promise17NoneWithoutABackup() {
        Disk x = new Disk(3);
        Check.same("differ()", x.differ(), NONE);
        x.sync();
        x.restore();
        Check.same("differ() behind a refused restore", x.differ(), NONE);
        x.off();
        Check.same("differ() while OFF", x.differ(), NONE);
    }

    static void promise17ZeroIfNoneDiffers() {
        Disk x = new Disk(3);
        x.sync();
        x.backup();
        Check.same("differ()", x.differ(), 0);
        x.end(1);
        x.add(1);
        Check.same("differ() with a row to be laid down", x.differ(), 0);
        x.poke(2, 2, 2);
        x.poke(2, 2, 2);
        Check.same("differ() with a byte spoilt and mended", x.differ(), 0);
        x.poke(2, 2, 256);
        Check.same("differ() with a mask of none of the lowest bits", x.differ(), 0);
    }

    static void promise17EachByteMakesASectorDiffer() {
        Disk x = new Disk(3);
        x.backup();
        for (int i = 0; i < 64; i++) {
            x.poke(2, i, 1);
            Check.same("differ() with byte " + i + " spoilt", x.differ(), 1);
            x.poke(2, i, 1);
        }
        x.poke(0, 0, 128);
        Check.same("differ()", x.differ(), 1);
    }

    static void promise17ASectorCountsOnce() {
        Disk x = new Disk(3);
        x.backup();
        x.poke(1, 0, 1);
        x.poke(1, 1, 1);
        x.poke(1, 63, 1);
        Check.same("differ()", x.differ(), 1);
    }

    static void promise17AllSectorsMayDiffer() {
        Disk x = new Disk(40);
        x.backup();
        for (int sector = 0; sector < 40; sector++) {
            x.poke(sector, sector, 1);
            Check.same("differ()", x.differ(), sector + 1);
        }
    }

    static void promise17WhileOff() {
        Disk x = new Disk(3);
        x.backup();
        x.sync();
        x.off();
        Check.same("differ()", x.differ(), 1);
        x.restore();
        Check.same("differ()", x.differ(), 0);
    }

    static void promise18NoneOfAnotherWhat() {
        Disk x = new Disk(3);
        int[] others = {-1, 4, 5, Integer.MIN_VALUE, Integer.MAX_VALUE};
        for (int what : others) {
            Check.same("state(" + what + ")", x.state(what), NONE);
        }
        x.off();
        for (int what : others) {
            Check.same("state(" + what + ") while OFF", x.state(what), NONE);
        }
    }

    static void promise18ANewObject() {
        Disk x = new Disk(3);
        Check.same("state(0)", x.state(0), 0);
        Check.same("state(1)", x.state(1), 0);
        Check.same("state(2)", x.state(2), 1);
        Check.same("state(3)", x.state(3), 3);
    }

    static void promise18TheLatestSync() {
        Disk x = new Disk(5);
        x.put(0, 40);
        x.put(0, 40);
        Check.same("state(1) before the sync", x.state(1), 0);
        x.sync();
        Check.same("state(0)", x.state(0), 1);
        Check.same("state(1)", x.state(1), 2);
        x.sync();
        Check.same("state(0) of a sync without rows", x.state(0), 2);
        Check.same("state(1) of a sync without rows", x.state(1), 2);
        x.end(0);
        x.sync();
        Check.same("state(1) with all sectors", x.state(1), 3);
    }

    static void promise18TheHeadThatWasRead() {
        Disk x = new Disk(5);
        x.end(0);
        x.sync();
        x.end(0);
        x.sync();
        x.cut(1, 0);
        x.start();
        Check.same("state(0)", x.state(0), 1);
        Check.same("state(1)", x.state(1), 1);
    }

    static void promise18TheLatestSyncWhileOff() {
        Disk x = new Disk(5);
        x.end(0);
        x.sync();
        x.end(0);
        x.sync();
        x.cut(0, 0);
        Check.same("state(0) behind a cut", x.state(0), 2);
        Check.same("state(1) behind a cut", x.state(1), 2);
        x.start();
        x.off();
        Check.same("state(0) behind off", x.state(0), 1);
        Check.same("state(1) behind off", x.state(1), 1);
    }

    static void promise18OnOrOff() {
        Disk x = new Disk(3);
        x.off();
        Check.same("state(2) behind off", x.state(2), 0);
        x.start();
        Check.same("state(2) behind a start", x.state(2), 1);
        x.sync();
        x.cut(0, 0);
        Check.same("state(2) behind a cut", x.state(2), 0);
        x.poke(0, 0, 1);
        x.poke(1, 0, 1);
        x.start();
        Check.same("state(2) behind a start without a head", x.state(2), 0);
    }

    static void promise18HowManySectorsWhileOff() {
        Disk x = new Disk(41);
        x.off();
        Check.same("state(3)", x.state(3), 40);
    }
}
