import java.util.Arrays;

/** Bytes of sectors as the document tells them, made apart from the class under test. */
final class Bytes {
    private Bytes() {
    }

    /** The sum with 64 bits and a remainder, so that it shares no trick with the class. */
    static long sum(int[] sector) {
        final long all = 1L << 32;
        long s = 0;
        for (int i = 0; i < 60; i++) {
            long x = s ^ sector[i];
            long rotated = (x * 8192) % all + x / (1L << 19);
            s = ((rotated % 65536) * 0x85EBCA6BL + ((rotated / 65536) * 0x85EBCA6BL % 65536) * 65536) % all;
        }
        return s;
    }

    static boolean sumIsRight(int[] sector) {
        return number(sector, 60) == sum(sector);
    }

    static long number(int[] sector, int i) {
        return sector[i] * 16777216L + sector[i + 1] * 65536L + sector[i + 2] * 256L + sector[i + 3];
    }

    static void putNumber(int[] sector, int i, long number) {
        sector[i] = (int) (number / 16777216 % 256);
        sector[i + 1] = (int) (number / 65536 % 256);
        sector[i + 2] = (int) (number / 256 % 256);
        sector[i + 3] = (int) (number % 256);
    }

    static int[] head(long number, long count) {
        int[] sector = new int[64];
        putNumber(sector, 0, number);
        putNumber(sector, 4, count);
        putNumber(sector, 60, sum(sector));
        return sector;
    }

    /** A sector of the log with the bytes given behind the byte that tells how many there are. */
    static int[] log(long number, int told, int... rows) {
        int[] sector = new int[64];
        putNumber(sector, 0, number);
        sector[4] = told;
        System.arraycopy(rows, 0, sector, 5, rows.length);
        putNumber(sector, 60, sum(sector));
        return sector;
    }

    /** The bytes of rows as Disk.put makes them, of kinds and sizes by turns. */
    static int[] rows(int... kindsAndSizes) {
        int[] bytes = new int[0];
        for (int k = 0; k < kindsAndSizes.length; k += 2) {
            int from = bytes.length;
            int size = kindsAndSizes[k + 1];
            bytes = Arrays.copyOf(bytes, from + 2 + size);
            bytes[from] = kindsAndSizes[k];
            bytes[from + 1] = size;
            for (int i = 0; i < size; i++) {
                bytes[from + 2 + i] = 100 + i;
            }
        }
        return bytes;
    }

    /** What a write leaves of which only the first so many bytes are done. */
    static int[] torn(int[] before, int[] written, int done) {
        int[] sector = before.clone();
        System.arraycopy(written, 0, sector, 0, done);
        return sector;
    }
}
