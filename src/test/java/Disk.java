/**
 * A LibraryDisk that counts its calls: nothing is promised behind the 512th, so a test that goes
 * further is at fault itself.
 */
final class Disk {
    static final int NONE = -1;
    static final int RANGE = -2;
    static final int STATE = -3;
    static final int FULL = -4;
    /** What at answers here where the class throws. */
    static final int THROWS = -1000;
    static final int MOST_CALLS = 512;

    private final LibraryDisk disk;
    private int calls = 0;

    Disk(int sectors) {
        disk = new LibraryDisk(sectors);
    }

    private LibraryDisk called() {
        calls++;
        if (calls > MOST_CALLS) {
            throw new IllegalStateException("the test makes more than " + MOST_CALLS + " calls");
        }
        return disk;
    }

    int callsLeft() {
        return MOST_CALLS - calls;
    }

    void add(int b) {
        called().add(b);
    }

    int end(int kind) {
        return called().end(kind);
    }

    int sync() {
        return called().sync();
    }

    int cut(int keep, int torn) {
        return called().cut(keep, torn);
    }

    int off() {
        return called().off();
    }

    int start() {
        return called().start();
    }

    int rows() {
        return called().rows();
    }

    int row(int number, int what) {
        return called().row(number, what);
    }

    int at(int row, int i) {
        LibraryDisk x = called();
        try {
            return x.at(row, i);
        } catch (ArrayIndexOutOfBoundsException e) {
            return THROWS;
        }
    }

    int poke(int sector, int i, int mask) {
        return called().poke(sector, i, mask);
    }

    int peek(int sector, int i) {
        return called().peek(sector, i);
    }

    int wrong(int i) {
        return called().wrong(i);
    }

    int bad() {
        return called().bad();
    }

    int backup() {
        return called().backup();
    }

    int restore() {
        return called().restore();
    }

    int differ() {
        return called().differ();
    }

    int state(int what) {
        return called().state(what);
    }

    /** A row of so many bytes: 100, 101 and so on. */
    int put(int kind, int size) {
        for (int i = 0; i < size; i++) {
            add(100 + i);
        }
        return end(kind);
    }

    /** Pokes a sector until it is what is wanted. */
    void forge(int sector, int[] wanted) {
        for (int i = 0; i < 64; i++) {
            int now = peek(sector, i);
            if (now != wanted[i]) {
                poke(sector, i, now ^ wanted[i]);
            }
        }
    }

    void dueSector(int sector, int[] want) {
        for (int i = 0; i < 64; i++) {
            Check.same("peek(" + sector + ", " + i + ")", peek(sector, i), want[i]);
        }
    }

    /** All that can be seen from outside: some 220 calls for 3 sectors, so that two looks do. */
    String look() {
        StringBuilder seen = new StringBuilder();
        for (int what = 0; what < 4; what++) {
            seen.append(" state ").append(state(what));
        }
        seen.append(" bad ").append(bad()).append(" differ ").append(differ());
        int rows = rows();
        seen.append(" rows ").append(rows);
        for (int k = 0; k < rows; k++) {
            int size = row(k, 1);
            seen.append(" row ").append(row(k, 0)).append(' ').append(size).append(' ').append(row(k, 2));
            for (int i = 0; i < size; i++) {
                seen.append(' ').append(at(k, i));
            }
        }
        int sectors = state(3);
        for (int s = 0; s < sectors; s++) {
            seen.append(" sector");
            for (int i = 0; i < 64; i++) {
                seen.append(' ').append(peek(s, i));
            }
        }
        return seen.toString();
    }

    void dueLook(String call, String want) {
        String got = look();
        if (!got.equals(want)) {
            Check.fault(call + " changed what is there: from" + want + " to" + got);
        }
    }
}
