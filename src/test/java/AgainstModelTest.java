import java.util.Random;

/**
 * Random runs of at most 512 calls, always the same ones, each answer compared with the model's. A
 * run ends with a look at all that is there, as far as calls are left.
 */
public final class AgainstModelTest {
    private static final int RUNS = 6000;

    private final Random random;
    private final Disk x;
    private final DiskModel m;
    /** How often a run spoils bytes, and how big its rows are: else few runs would get far. */
    private final int pokes;
    private final int rowSize;
    private final int callsForLook;

    private AgainstModelTest(long seed) {
        random = new Random(seed);
        int[] sizes = {Integer.MIN_VALUE, -1, 0, 2, 3, 4, 5, 6, 8, 12, 20, 39, 40, 41, Integer.MAX_VALUE};
        int sectors = sizes[random.nextInt(sizes.length)];
        x = new Disk(sectors);
        m = new DiskModel(sectors);
        pokes = random.nextInt(4);
        rowSize = random.nextInt(3) == 0 ? 44 : 1 + random.nextInt(6);
        callsForLook = random.nextInt(450);
    }

    public static void main(String[] args) {
        for (int run = 0; run < RUNS && Check.allRight(); run++) {
            Check.part("random run " + run);
            new AgainstModelTest(run).go();
        }
        Check.finish();
    }

    private void go() {
        while (stepsLeft() && Check.allRight()) {
            step();
        }
        lookAtAll();
    }

    private boolean stepsLeft() {
        return x.callsLeft() > callsForLook;
    }

    private void due(String call, int got, int want) {
        Check.same("call " + (Disk.MOST_CALLS - x.callsLeft()) + ", " + call, got, want);
    }

    private int near(int low, int high) {
        int r = random.nextInt(40);
        if (r == 0) {
            return low - 1;
        }
        if (r == 1) {
            return high + 1;
        }
        if (r == 2) {
            return random.nextInt();
        }
        return r < 6 ? low : r < 9 ? high : low + random.nextInt(high - low + 1);
    }

    private void step() {
        int r = random.nextInt(100);
        if (r < 35) {
            makeRow();
        } else if (r < 45) {
            due("sync()", x.sync(), m.sync());
        } else if (r < 49) {
            powerOff();
        } else if (r < 57) {
            due("start()", x.start(), m.start());
        } else if (r < 62 && pokes > 0) {
            spoil();
        } else if (r < 64 && pokes > 1) {
            forge();
        } else if (r < 68) {
            keepAndBring();
        } else {
            look();
        }
    }

    private void makeRow() {
        int bytes = random.nextInt(rowSize);
        for (int i = 0; i < bytes && x.callsLeft() > 1; i++) {
            int b = random.nextInt(4) == 0 ? random.nextInt() : random.nextInt(256);
            x.add(b);
            m.add(b);
        }
        int kind = near(0, 3);
        due("end(" + kind + ")", x.end(kind), m.end(kind));
    }

    private void powerOff() {
        if (random.nextInt(3) == 0) {
            due("off()", x.off(), m.off());
            return;
        }
        int keep = near(0, random.nextInt(5));
        int torn = near(0, 64);
        due("cut(" + keep + ", " + torn + ")", x.cut(keep, torn), m.cut(keep, torn));
    }

    private void spoil() {
        int sector = random.nextBoolean() ? near(0, 4) : near(0, m.n - 1);
        int i = near(0, 63);
        int mask = near(0, 255);
        due("poke(" + sector + ", " + i + ", " + mask + ")", x.poke(sector, i, mask), m.poke(sector, i, mask));
        if (random.nextBoolean() && x.callsLeft() > 0) {
            due("the same poke", x.poke(sector, i, mask), m.poke(sector, i, mask));
        }
    }

    /** A sector with a right sum, but not always of a form that a sync would give it. */
    private void forge() {
        int sector = random.nextInt(Math.min(m.n, 5));
        int[] wanted = sector < 2 ? forgedHead() : forgedLog();
        for (int i = 0; i < 64 && x.callsLeft() > 0; i++) {
            int mask = m.disk[sector][i] ^ wanted[i];
            if (mask != 0) {
                due("poke of a forged sector", x.poke(sector, i, mask), m.poke(sector, i, mask));
            }
        }
    }

    private int[] forgedHead() {
        long[] numbers = {0, 1, 2, 7, 0x7FFFFFFFL, 0x80000000L, 0xFFFFFFFFL, m.state(0) & 0xFFFFFFFFL};
        long[] counts = {0, 1, m.n - 2, m.n - 1, 0x80000000L, 0xFFFFFFFFL};
        return Bytes.head(numbers[random.nextInt(numbers.length)], counts[random.nextInt(counts.length)]);
    }

    private int[] forgedLog() {
        int[] rows = new int[random.nextInt(56)];
        for (int i = 0; i + 1 < rows.length; i += 2 + rows[i + 1]) {
            rows[i] = random.nextInt(12) == 0 ? random.nextInt(256) : random.nextInt(4);
            int left = rows.length - i - 2;
            rows[i + 1] = random.nextInt(12) == 0 ? random.nextInt(60) : Math.min(left, random.nextInt(8));
        }
        int told = random.nextInt(6) == 0 ? random.nextInt(70) : rows.length;
        return Bytes.log(random.nextInt(9), told, rows);
    }

    private void keepAndBring() {
        if (random.nextBoolean()) {
            due("backup()", x.backup(), m.backup());
        } else {
            due("restore()", x.restore(), m.restore());
        }
    }

    private void look() {
        int a = near(0, Math.max(0, m.rows() - 1));
        int b = near(0, 3);
        int sector = near(0, m.n - 1);
        int i = near(0, 63);
        switch (random.nextInt(8)) {
            case 0: due("rows()", x.rows(), m.rows()); break;
            case 1: due("row(" + a + ", " + b + ")", x.row(a, b), m.row(a, b)); break;
            case 2: due("at(" + a + ", " + b + ")", x.at(a, b), m.at(a, b)); break;
            case 3: due("peek(" + sector + ", " + i + ")", x.peek(sector, i), m.peek(sector, i)); break;
            case 4: due("wrong(" + b + ")", x.wrong(b), m.wrong(b)); break;
            case 5: due("bad()", x.bad(), m.bad()); break;
            case 6: due("differ()", x.differ(), m.differ()); break;
            default: due("state(" + b + ")", x.state(b), m.state(b)); break;
        }
    }

    /** From a random sector and row on, since the calls left seldom do for all of them. */
    private void lookAtAll() {
        if (random.nextBoolean()) {
            lookAtRows();
        }
        int first = random.nextInt(m.n);
        for (int k = 0; k < m.n; k++) {
            int s = (first + k) % m.n;
            for (int i = 0; i < 64 && x.callsLeft() > 0; i++) {
                due("peek(" + s + ", " + i + ")", x.peek(s, i), m.peek(s, i));
            }
        }
        lookAtRows();
    }

    private void lookAtRows() {
        int rows = m.rows();
        int first = rows == 0 ? 0 : random.nextInt(rows);
        for (int r = 0; r < rows; r++) {
            int k = (first + r) % rows;
            for (int what = 0; what < 3 && x.callsLeft() > 0; what++) {
                due("row(" + k + ", " + what + ")", x.row(k, what), m.row(k, what));
            }
            for (int i = -1; i <= m.row(k, 1) && x.callsLeft() > 0; i++) {
                due("at(" + k + ", " + i + ")", x.at(k, i), m.at(k, i));
            }
        }
    }
}
