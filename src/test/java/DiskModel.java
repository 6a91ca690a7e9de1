import java.util.ArrayList;
import java.util.Arrays;
import java.util.List;

/**
 * The document told a second time, as plainly as can be and without thrift: the random runs compare
 * the class with it. A cut is told by doing the writes and the pokes over again.
 */
final class DiskModel {
    static final int THROWS = Disk.THROWS;

    static final class Row {
        int kind;
        int[] bytes;
        int sector = -1;
    }

    private record Write(int sector, int[] bytes) {
    }

    private record Poke(int sector, int i, int mask) {
    }

    final int n;
    int[][] disk;
    private int[][] backup = null;
    private int[][] beforeSync = null;
    private List<Write> writes = null;
    private List<Poke> pokesSince = new ArrayList<>();
    private List<Row> rows = new ArrayList<>();
    private List<Integer> collected = new ArrayList<>();
    private boolean on = true;
    private long number = 0;
    private int count = 0;
    private int bad = 0;

    DiskModel(int sectors) {
        n = sectors < 3 ? 3 : sectors > 40 ? 40 : sectors;
        disk = new int[n][64];
    }

    private static int[][] copy(int[][] sectors) {
        int[][] c = new int[sectors.length][];
        for (int s = 0; s < c.length; s++) {
            c[s] = sectors[s].clone();
        }
        return c;
    }

    private List<Row> pending() {
        List<Row> p = new ArrayList<>();
        for (Row r : rows) {
            if (r.sector == -1) {
                p.add(r);
            }
        }
        return p;
    }

    /** Rows by sectors, each as many as there is room for. */
    private static List<List<Row>> pack(List<Row> rows) {
        List<List<Row>> packed = new ArrayList<>();
        int left = -1;
        for (Row r : rows) {
            int need = 2 + r.bytes.length;
            if (need > left) {
                packed.add(new ArrayList<>());
                left = 55;
            }
            packed.get(packed.size() - 1).add(r);
            left -= need;
        }
        return packed;
    }

    void add(int b) {
        if (collected.size() < 40) {
            collected.add(Math.floorMod(b, 256));
        }
    }

    int end(int kind) {
        if (!on) {
            return -3;
        }
        if (kind < 0 || kind > 3) {
            return -2;
        }
        Row r = new Row();
        r.kind = kind;
        r.bytes = collected.stream().mapToInt(Integer::intValue).toArray();
        List<Row> would = pending();
        would.add(r);
        if (rows.size() >= 300 || 2 + count + pack(would).size() > n) {
            return -4;
        }
        rows.add(r);
        collected.clear();
        return rows.size() - 1;
    }

    int sync() {
        if (!on) {
            return -3;
        }
        beforeSync = copy(disk);
        pokesSince = new ArrayList<>();
        writes = new ArrayList<>();
        number = (number + 1) % (1L << 32);
        for (List<Row> part : pack(pending())) {
            int sector = 2 + count;
            count++;
            List<Integer> told = new ArrayList<>();
            for (Row r : part) {
                told.add(r.kind);
                told.add(r.bytes.length);
                for (int b : r.bytes) {
                    told.add(b);
                }
                r.sector = sector;
            }
            int[] bytes = told.stream().mapToInt(Integer::intValue).toArray();
            writes.add(new Write(sector, Bytes.log(number, bytes.length, bytes)));
        }
        writes.add(new Write(number % 2 == 0 ? 0 : 1, Bytes.head(number, count)));
        for (Write w : writes) {
            disk[w.sector] = w.bytes.clone();
        }
        return writes.size();
    }

    int cut(int keep, int torn) {
        if (!on || writes == null) {
            return -3;
        }
        if (keep < 0 || keep > writes.size() || torn < 0 || torn > 64) {
            return -2;
        }
        int[][] d = copy(beforeSync);
        boolean[] undone = new boolean[n];
        for (int w = 0; w < writes.size(); w++) {
            Write write = writes.get(w);
            int bytes = w < keep ? 64 : w == keep ? torn : 0;
            System.arraycopy(write.bytes, 0, d[write.sector], 0, bytes);
            undone[write.sector] = w >= keep;
        }
        for (Poke p : pokesSince) {
            if (!undone[p.sector]) {
                d[p.sector][p.i] ^= p.mask;
            }
        }
        disk = d;
        powerless();
        return 1;
    }

    private void powerless() {
        rows = new ArrayList<>();
        collected = new ArrayList<>();
        on = false;
    }

    int off() {
        if (!on) {
            return -3;
        }
        int lost = pending().size();
        powerless();
        return lost;
    }

    int start() {
        if (on) {
            return -3;
        }
        int head = -1;
        for (int h = 0; h < 2; h++) {
            boolean right = Bytes.sumIsRight(disk[h]) && Bytes.number(disk[h], 4) <= n - 2;
            if (right && (head < 0 || Bytes.number(disk[h], 0) > Bytes.number(disk[head], 0))) {
                head = h;
            }
        }
        if (head < 0) {
            return -3;
        }
        number = Bytes.number(disk[head], 0);
        count = (int) Bytes.number(disk[head], 4);
        bad = 0;
        for (int s = 2; s < 2 + count; s++) {
            List<Row> read = Bytes.sumIsRight(disk[s]) ? read(s) : null;
            if (read == null) {
                bad++;
            } else {
                rows.addAll(read);
            }
        }
        on = true;
        writes = null;
        return rows.size();
    }

    private List<Row> read(int s) {
        if (disk[s][4] > 55) {
            return null;
        }
        int[] told = Arrays.copyOfRange(disk[s], 5, 5 + disk[s][4]);
        List<Row> read = new ArrayList<>();
        int i = 0;
        while (i < told.length) {
            if (i + 1 == told.length || told[i] > 3 || told[i + 1] > 40 || i + 2 + told[i + 1] > told.length) {
                return null;
            }
            Row r = new Row();
            r.kind = told[i];
            r.bytes = Arrays.copyOfRange(told, i + 2, i + 2 + told[i + 1]);
            r.sector = s;
            read.add(r);
            i += 2 + r.bytes.length;
        }
        return read;
    }

    int rows() {
        return rows.size();
    }

    int row(int k, int what) {
        if (k < 0 || k >= rows.size() || what < 0 || what > 2) {
            return -1;
        }
        Row r = rows.get(k);
        return what == 0 ? r.kind : what == 1 ? r.bytes.length : r.sector;
    }

    int at(int k, int i) {
        if (k < 0 || k >= rows.size()) {
            return -1;
        }
        int[] bytes = rows.get(k).bytes;
        return i < 0 || i >= bytes.length ? THROWS : bytes[i];
    }

    private boolean inside(int sector, int i) {
        return sector >= 0 && sector < n && i >= 0 && i < 64;
    }

    int poke(int sector, int i, int mask) {
        if (!inside(sector, i)) {
            return -1;
        }
        pokesSince.add(new Poke(sector, i, Math.floorMod(mask, 256)));
        disk[sector][i] ^= Math.floorMod(mask, 256);
        return disk[sector][i];
    }

    int peek(int sector, int i) {
        return inside(sector, i) ? disk[sector][i] : -1;
    }

    int wrong(int i) {
        List<Integer> all = new ArrayList<>();
        for (int s = 0; s < n; s++) {
            if (!Bytes.sumIsRight(disk[s])) {
                all.add(s);
            }
        }
        return i < 0 || i >= all.size() ? -1 : all.get(i);
    }

    int bad() {
        return bad;
    }

    int backup() {
        if (!on) {
            return -3;
        }
        backup = copy(disk);
        return (int) number;
    }

    int restore() {
        if (on || backup == null) {
            return -3;
        }
        disk = copy(backup);
        return 1;
    }

    int differ() {
        if (backup == null) {
            return -1;
        }
        int d = 0;
        for (int s = 0; s < n; s++) {
            d += Arrays.equals(disk[s], backup[s]) ? 0 : 1;
        }
        return d;
    }

    int state(int what) {
        switch (what) {
            case 0: return (int) number;
            case 1: return count;
            case 2: return on ? 1 : 0;
            case 3: return n;
            default: return -1;
        }
    }
}
