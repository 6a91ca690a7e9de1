/**
 * A disk of a library: rows laid down in sectors with sums, two heads by turns, syncs that a cut of
 * the power may break off, a start that finds what was acknowledged, spoilt bytes told, backups.
 */
public final class LibraryDisk {
    public static final int NONE = -1;
    public static final int RANGE = -2;
    public static final int STATE = -3;
    public static final int FULL = -4;

    private static final int LEAST_SECTORS = 3;
    private static final int MOST_SECTORS = 40;
    private static final int SECTOR_SIZE = 64;
    private static final int SUM_PLACE = 60;
    private static final int SUM_FACTOR = 0x85EBCA6B;

    private static final int FIRST_LOG_SECTOR = 2;
    private static final int NUMBER_PLACE = 0;
    private static final int COUNT_PLACE = 4;
    private static final int FILL_PLACE = 4;
    private static final int ROWS_PLACE = 5;
    private static final int ROOM_OF_SECTOR = SUM_PLACE - ROWS_PLACE;

    private static final int LAST_KIND = 3;
    private static final int MOST_BYTES = 40;
    private static final int ROW_FRONT = 2;
    private static final int MOST_ROWS = 300;
    private static final int MOST_ROWS_OF_SECTOR = ROOM_OF_SECTOR / ROW_FRONT;

    private final Sectors disk;
    /** Of each sector that the latest sync wrote, what it was before, and what was written. */
    private final Sectors before;
    private final Sectors written;
    private final Sectors kept;
    private boolean hasBackup;

    private final Rows shelf;
    private final byte[] collected;
    private int collectedSize;
    /** The sectors that the rows to be laid down will take, and the bytes in the last of them. */
    private int openSectors;
    private int openFill;

    private boolean on;
    private int syncNumber;
    private int logCount;
    /** The writes of the latest sync since the latest start (0: there was none). */
    private int syncWrites;
    private int syncFirstSector;
    private int badCount;

    public LibraryDisk(int sectors) {
        int count = Math.max(LEAST_SECTORS, Math.min(MOST_SECTORS, sectors));
        disk = new Sectors(count);
        before = new Sectors(count);
        written = new Sectors(count);
        kept = new Sectors(count);
        shelf = new Rows(count - FIRST_LOG_SECTOR);
        collected = new byte[MOST_BYTES];
        on = true;
    }

    public void add(int b) {
        if (collectedSize >= collected.length) {
            return;
        }
        collected[collectedSize] = (byte) b;
        collectedSize++;
    }

    public int end(int kind) {
        if (!on) {
            return STATE;
        }
        if (kind < 0 || kind > LAST_KIND) {
            return RANGE;
        }
        int need = ROW_FRONT + collectedSize;
        boolean fresh = needsFreshSector(need);
        if (shelf.count >= MOST_ROWS || (fresh && freeSectors() <= openSectors)) {
            return FULL;
        }
        takeRoom(need, fresh);
        shelveCollected(kind);
        return shelf.count - 1;
    }

    public int sync() {
        if (!on) {
            return STATE;
        }
        syncNumber++;
        syncFirstSector = FIRST_LOG_SECTOR + logCount;
        int laid = layDownRows();
        logCount += laid;
        layDownHead();
        syncWrites = laid + 1;
        forgetOpenSectors();
        return syncWrites;
    }

    public int cut(int keep, int torn) {
        if (!on || syncWrites == 0) {
            return STATE;
        }
        if (keep < 0 || keep > syncWrites || torn < 0 || torn > SECTOR_SIZE) {
            return RANGE;
        }
        for (int write = keep; write < syncWrites; write++) {
            breakOff(sectorOfWrite(write), write == keep ? torn : 0);
        }
        goOff();
        return 1;
    }

    public int off() {
        if (!on) {
            return STATE;
        }
        int lost = shelf.count - shelf.laid;
        goOff();
        return lost;
    }

    public int start() {
        if (on) {
            return STATE;
        }
        int head = latestRightHead();
        if (head == NONE) {
            return STATE;
        }
        syncNumber = disk.numberAt(head, NUMBER_PLACE);
        logCount = disk.numberAt(head, COUNT_PLACE);
        syncWrites = 0;
        readLog();
        on = true;
        return shelf.count;
    }

    public int rows() {
        return shelf.count;
    }

    public int row(int number, int what) {
        if (!shelf.holds(number)) {
            return NONE;
        }
        switch (what) {
            case 0:
                return shelf.kinds[number];
            case 1:
                return shelf.sizes[number];
            case 2:
                return shelf.places[number];
            default:
                return NONE;
        }
    }

    public int at(int row, int i) throws ArrayIndexOutOfBoundsException {
        if (!shelf.holds(row)) {
            return NONE;
        }
        if (i < 0 || i >= shelf.sizes[row]) {
            throw new ArrayIndexOutOfBoundsException("the row has no such byte");
        }
        return shelf.byteOf(row, i);
    }

    public int poke(int sector, int i, int mask) {
        if (!disk.holds(sector, i)) {
            return NONE;
        }
        disk.put(sector, i, disk.byteAt(sector, i) ^ mask);
        return disk.byteAt(sector, i);
    }

    public int peek(int sector, int i) {
        return disk.byteAt(sector, i);
    }

    public int wrong(int i) {
        int found = 0;
        for (int sector = 0; sector < disk.count; sector++) {
            if (!disk.sumIsRight(sector)) {
                if (found == i) {
                    return sector;
                }
                found++;
            }
        }
        return NONE;
    }

    public int bad() {
        return badCount;
    }

    public int backup() {
        if (!on) {
            return STATE;
        }
        kept.copyAll(disk);
        hasBackup = true;
        return syncNumber;
    }

    public int restore() {
        if (on || !hasBackup) {
            return STATE;
        }
        disk.copyAll(kept);
        return 1;
    }

    public int differ() {
        if (!hasBackup) {
            return NONE;
        }
        int different = 0;
        for (int sector = 0; sector < disk.count; sector++) {
            if (!disk.sameSector(kept, sector)) {
                different++;
            }
        }
        return different;
    }

    public int state(int what) {
        switch (what) {
            case 0:
                return syncNumber;
            case 1:
                return logCount;
            case 2:
                return on ? 1 : 0;
            case 3:
                return disk.count;
            default:
                return NONE;
        }
    }

    private int freeSectors() {
        return disk.count - FIRST_LOG_SECTOR - logCount;
    }

    private boolean needsFreshSector(int need) {
        return openSectors == 0 || openFill + need > ROOM_OF_SECTOR;
    }

    private void takeRoom(int need, boolean fresh) {
        if (fresh) {
            openSectors++;
            openFill = 0;
        }
        openFill += need;
    }

    private void forgetOpenSectors() {
        openSectors = 0;
        openFill = 0;
    }

    private void shelveCollected(int kind) {
        shelf.open(kind, NONE);
        for (int i = 0; i < collectedSize && i < collected.length; i++) {
            shelf.extend(collected[i]);
        }
        collectedSize = 0;
    }

    /** Answers how many sectors of the log were written. */
    private int layDownRows() {
        int free = freeSectors();
        int used = 0;
        while (used < free && shelf.laid < shelf.count) {
            layDownSector(syncFirstSector + used);
            used++;
        }
        return used;
    }

    private void layDownSector(int sector) {
        written.clearSector(sector);
        written.putNumber(sector, NUMBER_PLACE, syncNumber);
        int fill = 0;
        for (int row = shelf.laid; row < shelf.count; row++) {
            int need = ROW_FRONT + shelf.sizes[row];
            if (fill + need > ROOM_OF_SECTOR) {
                break;
            }
            layDownRow(row, sector, ROWS_PLACE + fill);
            fill += need;
        }
        written.put(sector, FILL_PLACE, fill);
        writeThrough(sector);
    }

    private void layDownRow(int row, int sector, int place) {
        int size = shelf.sizes[row];
        written.put(sector, place, shelf.kinds[row]);
        written.put(sector, place + 1, size);
        for (int i = 0; i < size; i++) {
            written.put(sector, place + ROW_FRONT + i, shelf.byteOf(row, i));
        }
        shelf.places[row] = sector;
        shelf.laid = row + 1;
    }

    private void layDownHead() {
        int head = headOf(syncNumber);
        written.clearSector(head);
        written.putNumber(head, NUMBER_PLACE, syncNumber);
        written.putNumber(head, COUNT_PLACE, logCount);
        writeThrough(head);
    }

    private void writeThrough(int sector) {
        written.seal(sector);
        before.copyPart(disk, sector, 0, SECTOR_SIZE);
        disk.copyPart(written, sector, 0, SECTOR_SIZE);
    }

    private static int headOf(int number) {
        return number & 1;
    }

    private int sectorOfWrite(int write) {
        return write < syncWrites - 1 ? syncFirstSector + write : headOf(syncNumber);
    }

    /** The written bytes come from the copy, since pokes of a sector not written whole are gone. */
    private void breakOff(int sector, int done) {
        disk.copyPart(written, sector, 0, done);
        disk.copyPart(before, sector, done, SECTOR_SIZE);
    }

    private void goOff() {
        shelf.clear();
        collectedSize = 0;
        forgetOpenSectors();
        on = false;
    }

    private int latestRightHead() {
        boolean first = headIsRight(0);
        boolean second = headIsRight(1);
        if (first && second) {
            return disk.unsignedAt(1, NUMBER_PLACE) > disk.unsignedAt(0, NUMBER_PLACE) ? 1 : 0;
        }
        if (first) {
            return 0;
        }
        return second ? 1 : NONE;
    }

    private boolean headIsRight(int head) {
        return disk.sumIsRight(head)
            && disk.unsignedAt(head, COUNT_PLACE) <= disk.count - FIRST_LOG_SECTOR;
    }

    private void readLog() {
        shelf.clear();
        badCount = 0;
        for (int i = 0; i < logCount; i++) {
            int sector = FIRST_LOG_SECTOR + i;
            if (hasWholeRows(sector)) {
                readRows(sector);
            } else {
                badCount++;
            }
        }
        shelf.laid = shelf.count;
    }

    private boolean hasWholeRows(int sector) {
        int fill = disk.byteAt(sector, FILL_PLACE);
        if (!disk.sumIsRight(sector) || fill > ROOM_OF_SECTOR) {
            return false;
        }
        int end = ROWS_PLACE + fill;
        int place = ROWS_PLACE;
        while (place < end) {
            int kind = disk.byteAt(sector, place);
            int size = disk.byteAt(sector, place + 1);
            if (kind > LAST_KIND || size > MOST_BYTES) {
                return false;
            }
            place += ROW_FRONT + Math.max(0, size);
        }
        return place == end;
    }

    private void readRows(int sector) {
        int end = ROWS_PLACE + disk.byteAt(sector, FILL_PLACE);
        int place = ROWS_PLACE;
        while (place < end) {
            int size = Math.max(0, disk.byteAt(sector, place + 1));
            shelf.open(disk.byteAt(sector, place), sector);
            for (int i = 0; i < size; i++) {
                shelf.extend(disk.byteAt(sector, place + ROW_FRONT + i));
            }
            place += ROW_FRONT + size;
        }
    }

    /** Sectors one behind the other; a place outside them is never touched. */
    private static final class Sectors {
        private final int count;
        private final byte[] bytes;

        Sectors(int count) {
            this.count = Math.max(0, Math.min(MOST_SECTORS, count));
            this.bytes = new byte[this.count * SECTOR_SIZE];
        }

        boolean holds(int sector, int i) {
            return sector >= 0 && sector < count && i >= 0 && i < SECTOR_SIZE;
        }

        int byteAt(int sector, int i) {
            return holds(sector, i) ? bytes[sector * SECTOR_SIZE + i] & 0xFF : NONE;
        }

        void put(int sector, int i, int b) {
            if (holds(sector, i)) {
                bytes[sector * SECTOR_SIZE + i] = (byte) b;
            }
        }

        int numberAt(int sector, int i) {
            int number = 0;
            for (int k = 0; k < 4; k++) {
                number = (number << 8) | (byteAt(sector, i + k) & 0xFF);
            }
            return number;
        }

        long unsignedAt(int sector, int i) {
            return numberAt(sector, i) & 0xFFFFFFFFL;
        }

        void putNumber(int sector, int i, int number) {
            for (int k = 0; k < 4; k++) {
                put(sector, i + k, number >>> (24 - 8 * k));
            }
        }

        int sumOf(int sector) {
            int sum = 0;
            if (!holds(sector, 0)) {
                return sum;
            }
            int first = sector * SECTOR_SIZE;
            for (int i = first; i < first + SUM_PLACE; i++) {
                int mixed = sum ^ (bytes[i] & 0xFF);
                sum = ((mixed << 13) | (mixed >>> 19)) * SUM_FACTOR;
            }
            return sum;
        }

        boolean sumIsRight(int sector) {
            return numberAt(sector, SUM_PLACE) == sumOf(sector);
        }

        void seal(int sector) {
            putNumber(sector, SUM_PLACE, sumOf(sector));
        }

        void clearSector(int sector) {
            for (int i = 0; i < SECTOR_SIZE; i++) {
                put(sector, i, 0);
            }
        }

        /** Bytes from first on, up to but without end, of the same sector there. */
        void copyPart(Sectors from, int sector, int first, int end) {
            if (first < 0 || first >= end || !holds(sector, end - 1) || !from.holds(sector, end - 1)) {
                return;
            }
            int place = sector * SECTOR_SIZE + first;
            System.arraycopy(from.bytes, place, bytes, place, end - first);
        }

        void copyAll(Sectors from) {
            for (int sector = 0; sector < count; sector++) {
                copyPart(from, sector, 0, SECTOR_SIZE);
            }
        }

        boolean sameSector(Sectors other, int sector) {
            for (int i = 0; i < SECTOR_SIZE; i++) {
                if (byteAt(sector, i) != other.byteAt(sector, i)) {
                    return false;
                }
            }
            return true;
        }
    }

    /**
     * The rows that are there: first those laid down, then the others. They have bytes of their own,
     * since a poke must not change a row that was read; and room for all that a log can hold, since
     * a start may read more rows than end would ever take.
     */
    private static final class Rows {
        private final int[] kinds;
        private final int[] sizes;
        private final int[] places;
        private final int[] starts;
        private final byte[] pool;
        private int count;
        private int laid;
        private int poolSize;

        Rows(int logSectors) {
            int sectors = Math.max(0, Math.min(MOST_SECTORS, logSectors));
            int most = sectors * MOST_ROWS_OF_SECTOR;
            kinds = new int[most];
            sizes = new int[most];
            places = new int[most];
            starts = new int[most];
            pool = new byte[sectors * ROOM_OF_SECTOR];
        }

        boolean holds(int number) {
            return number >= 0 && number < count;
        }

        void clear() {
            count = 0;
            laid = 0;
            poolSize = 0;
        }

        void open(int kind, int place) {
            if (count >= kinds.length) {
                return;
            }
            kinds[count] = kind;
            sizes[count] = 0;
            places[count] = place;
            starts[count] = poolSize;
            count++;
        }

        void extend(int b) {
            if (count == 0 || poolSize >= pool.length) {
                return;
            }
            pool[poolSize] = (byte) b;
            poolSize++;
            sizes[count - 1]++;
        }

        int byteOf(int number, int i) {
            if (!holds(number) || i < 0 || i >= sizes[number]) {
                return NONE;
            }
            return pool[starts[number] + i] & 0xFF;
        }
    }
}
