/** Each promise of the document by itself: ordinary inputs, the edges it names, wrong inputs. */
public final class PromisesTest {
    private static final int NONE = Disk.NONE;
    private static final int RANGE = Disk.RANGE;
    private static final int STATE = Disk.STATE;
    private static final int FULL = Disk.FULL;
    private static final int THROWS = Disk.THROWS;

    public static void main(String[] args) {
        newObject();
        add();
        end();
        endWithoutRoom();
        endWithManyRows();
        sync();
        syncWithoutRows();
        syncFillsSectors();
        cut();
        cutEachPlace();
        cutAndPokes();
        off();
        start();
        startChoosesHead();
        rowsCounted();
        row();
        at();
        poke();
        peek();
        wrong();
        bad();
        backup();
        restore();
        differ();
        state();
        Check.finish();
    }

    private static void newObject() {
        Check.part("1, a new object");
        int[][] sizes = {{Integer.MIN_VALUE, 3}, {-1, 3}, {0, 3}, {2, 3}, {3, 3}, {4, 4}, {39, 39},
            {40, 40}, {41, 40}, {Integer.MAX_VALUE, 40}};
        for (int[] size : sizes) {
            Disk x = new Disk(size[0]);
            Check.same("state(3) of " + size[0], x.state(3), size[1]);
            Check.same("state(2)", x.state(2), 1);
            Check.same("rows()", x.rows(), 0);
            Check.same("peek behind the last", x.peek(size[1], 0), NONE);
            for (int s = 0; s < size[1]; s++) {
                new Disk(size[0]).dueSector(s, new int[64]);
            }
        }
    }

    private static void add() {
        Check.part("2, add");
        Disk x = new Disk(5);
        for (int i = 0; i < 40; i++) {
            x.add(i);
        }
        x.add(200);
        x.add(201);
        Check.same("end(0)", x.end(0), 0);
        Check.same("row(0, 1)", x.row(0, 1), 40);
        Check.same("at(0, 0)", x.at(0, 0), 0);
        Check.same("at(0, 39)", x.at(0, 39), 39);
        Check.same("at(0, 40)", x.at(0, 40), THROWS);
        x.add(-1);
        x.add(256);
        x.add(0x1234);
        Check.same("end(0)", x.end(0), 1);
        Check.same("at(1, 0)", x.at(1, 0), 255);
        Check.same("at(1, 1)", x.at(1, 1), 0);
        Check.same("at(1, 2)", x.at(1, 2), 0x34);
        x.off();
        x.add(9);
        x.start();
        Check.same("end(1) of what was collected while OFF", x.end(1), 0);
        Check.same("row(0, 1)", x.row(0, 1), 1);
        Check.same("at(0, 0)", x.at(0, 0), 9);
    }

    private static void end() {
        Check.part("3, end");
        Disk x = new Disk(5);
        x.add(5);
        Check.same("end(-1)", x.end(-1), RANGE);
        Check.same("end(4)", x.end(4), RANGE);
        Check.same("end(max)", x.end(Integer.MAX_VALUE), RANGE);
        Check.same("end(min)", x.end(Integer.MIN_VALUE), RANGE);
        Check.same("rows()", x.rows(), 0);
        Check.same("end(3)", x.end(3), 0);
        Check.same("row(0, 1): it stayed collected", x.row(0, 1), 1);
        Check.same("end(0)", x.end(0), 1);
        Check.same("row(1, 1): nothing is collected any more", x.row(1, 1), 0);
        x.sync();
        Check.same("end(1) behind a sync", x.end(1), 2);
        x.off();
        x.add(6);
        Check.same("end(1) while OFF", x.end(1), STATE);
        Check.same("end(9) while OFF", x.end(9), STATE);
        x.start();
        Check.same("end(2)", x.end(2), 2);
        Check.same("at(2, 0): it stayed collected", x.at(2, 0), 6);
    }

    private static void endWithoutRoom() {
        Check.part("3, end without room");
        Disk x = new Disk(4);
        Check.same("40 bytes", x.put(0, 40), 0);
        Check.same("11 bytes: sector 2 is full to the last byte", x.put(0, 11), 1);
        Check.same("40 bytes", x.put(0, 40), 2);
        Check.same("12 bytes: one too many", x.put(0, 12), FULL);
        Check.same("a wrong kind before FULL", x.end(4), RANGE);
        Check.same("rows()", x.rows(), 3);
        Check.same("sync()", x.sync(), 3);
        Check.same("no sector is left", x.end(0), FULL);
        x.off();
        Check.same("start()", x.start(), 3);
        Check.same("no sector is left", x.end(0), FULL);

        Disk y = new Disk(4);
        y.put(0, 0);
        y.sync();
        Check.same("a sync's rows get a sector of their own", y.put(0, 40), 1);
        Check.same("12 bytes", y.put(0, 12), FULL);
        Check.same("it stays collected", y.end(1), FULL);
        y.off();
        Check.same("start()", y.start(), 1);
        Check.same("there is room again", y.put(0, 40), 1);
        Check.same("11 bytes", y.put(0, 11), 2);
        Check.same("rows()", y.rows(), 3);
    }

    private static void endWithManyRows() {
        Check.part("3, end with 300 rows");
        Disk x = new Disk(40);
        for (int i = 0; i < 300; i++) {
            Check.same("end(" + i % 4 + ")", x.end(i % 4), i);
        }
        x.add(1);
        Check.same("end(0) of row 300", x.end(0), FULL);
        Check.same("end(4)", x.end(4), RANGE);
        Check.same("sync()", x.sync(), 13);
        Check.same("end(0) of row 300", x.end(0), FULL);
        Check.same("rows()", x.rows(), 300);
        Check.same("row(299, 2)", x.row(299, 2), 13);
        Check.same("row(26, 2)", x.row(26, 2), 2);
        Check.same("row(27, 2)", x.row(27, 2), 3);
    }

    private static void sync() {
        Check.part("4, sync");
        Disk x = new Disk(6);
        Check.same("sync() without rows", x.sync(), 1);
        x.dueSector(1, Bytes.head(1, 0));
        x.add(7);
        x.add(8);
        x.end(2);
        x.end(0);
        Check.same("sync()", x.sync(), 2);
        x.dueSector(2, Bytes.log(2, 6, 2, 2, 7, 8, 0, 0));
        x.dueSector(0, Bytes.head(2, 1));
        x.dueSector(1, Bytes.head(1, 0));
        x.add(255);
        x.end(3);
        Check.same("sync()", x.sync(), 2);
        x.dueSector(3, Bytes.log(3, 3, 3, 1, 255));
        x.dueSector(1, Bytes.head(3, 2));
        x.dueSector(0, Bytes.head(2, 1));
    }

    private static void syncWithoutRows() {
        Check.part("4, sync without rows");
        Disk x = new Disk(4);
        x.end(1);
        x.sync();
        Check.same("sync() with nothing new", x.sync(), 1);
        x.dueSector(0, Bytes.head(2, 1));
        x.dueSector(3, new int[64]);
        x.add(1);
        Check.same("sync() with bytes collected, but no row", x.sync(), 1);
        Check.same("end(0)", x.end(0), 1);
        Check.same("row(1, 1)", x.row(1, 1), 1);
        x.off();
        Check.same("sync() while OFF", x.sync(), STATE);
        Check.same("state(0)", x.state(0), 3);
        x.dueSector(0, Bytes.head(2, 1));
        x.dueSector(1, Bytes.head(3, 1));
        x.dueSector(3, new int[64]);
    }

    private static void syncFillsSectors() {
        Check.part("4, sync fills sectors");
        Disk x = new Disk(8);
        x.put(0, 30);
        x.put(1, 22);
        x.put(2, 0);
        x.put(3, 40);
        x.put(0, 7);
        Check.same("sync()", x.sync(), 4);
        int[] sectors = {2, 3, 3, 4, 4};
        for (int i = 0; i < sectors.length; i++) {
            Check.same("row(" + i + ", 2)", x.row(i, 2), sectors[i]);
        }
        Check.same("bytes of rows in 2", x.peek(2, 4), 32);
        Check.same("bytes of rows in 3", x.peek(3, 4), 26);
        Check.same("bytes of rows in 4", x.peek(4, 4), 51);
        Check.same("state(1)", x.state(1), 3);
        x.dueSector(1, Bytes.head(1, 3));
        x.put(0, 40);
        x.put(0, 11);
        Check.same("sync() of 55 bytes", x.sync(), 2);
        Check.same("bytes of rows in 5", x.peek(5, 4), 55);
        Check.same("its last byte", x.peek(5, 59), 110);

        // What lay there before a sector was written must not shine through.
        Disk y = new Disk(3);
        y.poke(2, 50, 77);
        y.poke(1, 50, 77);
        y.end(1);
        y.sync();
        y.dueSector(2, Bytes.log(1, 2, 1, 0));
        y.dueSector(1, Bytes.head(1, 1));
    }

    private static void cut() {
        Check.part("5, cut");
        Disk x = new Disk(6);
        Check.same("cut(0, 0) without a sync", x.cut(0, 0), STATE);
        Check.same("cut(9, 99) without a sync", x.cut(9, 99), STATE);
        x.end(1);
        x.sync();
        Check.same("cut(-1, 0)", x.cut(-1, 0), RANGE);
        Check.same("cut(3, 0)", x.cut(3, 0), RANGE);
        Check.same("cut(0, -1)", x.cut(0, -1), RANGE);
        Check.same("cut(0, 65)", x.cut(0, 65), RANGE);
        Check.same("cut(2, 65)", x.cut(2, 65), RANGE);
        Check.same("cut(max, max)", x.cut(Integer.MAX_VALUE, Integer.MAX_VALUE), RANGE);
        Check.same("cut(min, min)", x.cut(Integer.MIN_VALUE, Integer.MIN_VALUE), RANGE);
        Check.same("state(2)", x.state(2), 1);
        x.end(2);
        x.add(1);
        Check.same("cut(2, 64)", x.cut(2, 64), 1);
        Check.same("state(2)", x.state(2), 0);
        Check.same("cut(0, 0) while OFF", x.cut(0, 0), STATE);
        Check.same("cut(9, 0) while OFF", x.cut(9, 0), STATE);
        Check.same("start()", x.start(), 1);
        Check.same("cut(0, 0) behind the start", x.cut(0, 0), STATE);
        Check.same("end(0)", x.end(0), 1);
        Check.same("row(1, 1): what was collected is gone", x.row(1, 1), 0);
        x.sync();
        x.sync();
        Check.same("cut(2, 0): the latest sync has one write", x.cut(2, 0), RANGE);
        Check.same("cut(0, 0)", x.cut(0, 0), 1);
        Check.same("start(): the sync before it stands", x.start(), 2);
        Check.same("state(0)", x.state(0), 2);
    }

    /** A sync of two sectors and a head, broken off at every place. */
    private static void cutEachPlace() {
        Check.part("5, cut at each place");
        int[][] old = {Bytes.head(2, 1), Bytes.head(1, 1), Bytes.log(1, 2, 1, 0), new int[64], new int[64]};
        old[3][60] = 5;
        int[][] now = old.clone();
        now[1] = Bytes.head(3, 3);
        now[3] = Bytes.log(3, 46, Bytes.rows(2, 2, 3, 40));
        now[4] = Bytes.log(3, 42, Bytes.rows(0, 40));
        int[] order = {3, 4, 1};
        for (int keep = 0; keep <= 3; keep++) {
            for (int torn = 0; torn <= 64; torn++) {
                Disk x = new Disk(6);
                x.end(1);
                x.sync();
                x.sync();
                x.poke(3, 60, 5);
                x.put(2, 2);
                x.put(3, 40);
                x.put(0, 40);
                x.sync();
                x.cut(keep, torn);
                for (int w = 0; w < 3; w++) {
                    int bytes = w < keep ? 64 : w == keep ? torn : 0;
                    x.dueSector(order[w], Bytes.torn(old[order[w]], now[order[w]], bytes));
                }
                x.dueSector(0, old[0]);
                x.dueSector(2, old[2]);
                // Two heads differ in bytes 3 and 7 and in their sums, so that 63 bytes may do.
                int[] head = Bytes.torn(old[1], now[1], keep > 2 ? 64 : keep == 2 ? torn : 0);
                boolean acknowledged = Bytes.sumIsRight(head) && head[3] == 3;
                Check.same("start() behind cut(" + keep + ", " + torn + ")", x.start(), acknowledged ? 4 : 1);
                Check.same("bad()", x.bad(), 0);
            }
        }
    }

    private static void cutAndPokes() {
        Check.part("5, cut and pokes");
        for (int keep = 0; keep <= 2; keep++) {
            Disk x = new Disk(6);
            x.poke(1, 0, 0x40);
            x.poke(2, 1, 0x40);
            x.poke(2, 33, 0x40);
            x.end(1);
            x.sync();
            x.poke(2, 0, 0x80);
            x.poke(2, 1, 0x80);
            x.poke(2, 33, 0x80);
            x.poke(1, 1, 0x80);
            x.poke(1, 33, 0x80);
            x.poke(0, 10, 0x80);
            x.poke(5, 10, 0x80);
            x.cut(keep, 20);
            Check.same("keep " + keep + ", peek(1, 0)", x.peek(1, 0), keep == 0 ? 0x40 : 0);
            Check.same("keep " + keep + ", peek(2, 0)", x.peek(2, 0), keep == 0 ? 0 : 0x80);
            Check.same("keep " + keep + ", peek(2, 1)", x.peek(2, 1), keep == 0 ? 0 : 0x80);
            Check.same("keep " + keep + ", peek(2, 33)", x.peek(2, 33), keep == 0 ? 0x40 : 0x80);
            Check.same("keep " + keep + ", peek(1, 1)", x.peek(1, 1), keep == 2 ? 0x80 : 0);
            Check.same("keep " + keep + ", peek(1, 33)", x.peek(1, 33), keep == 2 ? 0x80 : 0);
            Check.same("keep " + keep + ", peek(0, 10)", x.peek(0, 10), 0x80);
            Check.same("keep " + keep + ", peek(5, 10)", x.peek(5, 10), 0x80);
        }
    }

    private static void off() {
        Check.part("6, off");
        Disk x = new Disk(5);
        x.end(0);
        x.sync();
        x.end(1);
        x.end(2);
        x.add(3);
        Check.same("off()", x.off(), 2);
        Check.same("state(2)", x.state(2), 0);
        Check.same("rows()", x.rows(), 0);
        Check.same("off() while OFF", x.off(), STATE);
        Check.same("start()", x.start(), 1);
        Check.same("end(0)", x.end(0), 1);
        Check.same("row(1, 1): what was collected is gone", x.row(1, 1), 0);
        Check.same("sync()", x.sync(), 2);
        Check.same("off() with all laid down", x.off(), 0);
    }

    private static void start() {
        Check.part("7, start");
        Disk x = new Disk(6);
        Check.same("start() while ON", x.start(), STATE);
        x.off();
        Check.same("start() of 0s", x.start(), 0);
        Check.same("state(0)", x.state(0), 0);
        x.put(1, 3);
        x.put(2, 40);
        x.put(3, 20);
        x.sync();
        x.put(0, 0);
        x.off();
        Check.same("start()", x.start(), 3);
        Check.same("row(0, 0)", x.row(0, 0), 1);
        Check.same("row(1, 1)", x.row(1, 1), 40);
        Check.same("row(2, 2)", x.row(2, 2), 3);
        Check.same("at(0, 2)", x.at(0, 2), 102);
        Check.same("at(1, 39)", x.at(1, 39), 139);
        Check.same("at(2, 19)", x.at(2, 19), 119);
        Check.same("sync(): nothing is to be laid down", x.sync(), 1);
        Check.same("state(0): the numbers go on", x.state(0), 2);
        x.off();
        x.poke(0, 63, 1);
        x.poke(1, 63, 1);
        Check.same("start() without a right head", x.start(), STATE);
        Check.same("state(2)", x.state(2), 0);
        Check.same("rows()", x.rows(), 0);
        x.poke(1, 63, 1);
        Check.same("start() from the other head", x.start(), 3);
        Check.same("state(0)", x.state(0), 1);
        x.put(1, 1);
        x.sync();
        x.dueSector(4, Bytes.log(2, 3, 1, 1, 100));
        x.dueSector(0, Bytes.head(2, 3));
    }

    private static void startChoosesHead() {
        Check.part("7, start chooses a head");
        long[][] heads = {
            // number and count of head 0, of head 1, the one that is due (-1: neither)
            {4, 0, 5, 1, 1}, {6, 0, 5, 1, 0}, {5, 0, 5, 1, 0}, {0, 0, 0, 1, 0}, {0, 1, 1, 0, 1},
            {255, 0, 256, 1, 1}, {0x7FFFFFFFL, 0, 0x80000000L, 1, 1}, {0xFFFFFFFFL, 0, 1, 1, 0},
            {9, 3, 8, 1, 0}, {9, 4, 8, 1, 1}, {9, 0x80000000L, 8, 1, 1}, {9, 0xFFFFFFFFL, 8, 1, 1},
            {9, 0x01000000L, 8, 1, 1}, {9, 4, 8, 4, -1}, {7, 2, 8, 4, 0},
        };
        for (long[] h : heads) {
            Disk x = new Disk(5);
            x.off();
            x.forge(0, Bytes.head(h[0], h[1]));
            x.forge(1, Bytes.head(h[2], h[3]));
            String of = " of heads " + h[0] + ", " + h[1] + " and " + h[2] + ", " + h[3];
            Check.same("start()" + of, x.start(), h[4] < 0 ? STATE : 0);
            if (h[4] >= 0) {
                int k = (int) h[4] * 2;
                Check.same("state(0)" + of, x.state(0), (int) h[k]);
                Check.same("state(1)" + of, x.state(1), h[k + 1]);
                x.sync();
                Check.same("state(0) behind a sync" + of, x.state(0), (int) (h[k] + 1));
                x.dueSector((int) ((h[k] + 1) % 2), Bytes.head((h[k] + 1) % (1L << 32), h[k + 1]));
            }
        }

        // A head's sum counts, and nothing behind its two numbers does.
        Disk y = new Disk(5);
        y.off();
        int[] odd = Bytes.head(3, 1);
        odd[30] = 99;
        Bytes.putNumber(odd, 60, Bytes.sum(odd));
        y.forge(0, odd);
        Check.same("start()", y.start(), 0);
        Check.same("state(0)", y.state(0), 3);
        y.off();
        y.poke(0, 30, 1);
        Check.same("start()", y.start(), 0);
        Check.same("state(0)", y.state(0), 0);
    }

    private static void rowsCounted() {
        Check.part("8, rows");
        Disk x = new Disk(5);
        Check.same("rows()", x.rows(), 0);
        x.add(1);
        Check.same("rows() with bytes collected", x.rows(), 0);
        x.end(0);
        Check.same("rows()", x.rows(), 1);
        x.sync();
        x.end(0);
        Check.same("rows()", x.rows(), 2);
        x.cut(2, 0);
        Check.same("rows() while OFF", x.rows(), 0);
        x.start();
        Check.same("rows()", x.rows(), 1);
        x.off();
        Check.same("rows() while OFF", x.rows(), 0);
    }

    private static void row() {
        Check.part("9, row");
        Disk x = new Disk(5);
        Check.same("row(0, 0) without rows", x.row(0, 0), NONE);
        x.put(3, 4);
        x.put(0, 0);
        Check.same("row(0, 0)", x.row(0, 0), 3);
        Check.same("row(0, 1)", x.row(0, 1), 4);
        Check.same("row(0, 2)", x.row(0, 2), -1);
        Check.same("row(1, 0)", x.row(1, 0), 0);
        Check.same("row(1, 1)", x.row(1, 1), 0);
        Check.same("row(0, 3)", x.row(0, 3), NONE);
        Check.same("row(0, -1)", x.row(0, -1), NONE);
        Check.same("row(-1, 0)", x.row(-1, 0), NONE);
        Check.same("row(2, 0)", x.row(2, 0), NONE);
        Check.same("row(max, 0)", x.row(Integer.MAX_VALUE, 0), NONE);
        Check.same("row(min, 0)", x.row(Integer.MIN_VALUE, 0), NONE);
        x.sync();
        x.put(1, 1);
        Check.same("row(1, 2)", x.row(1, 2), 2);
        Check.same("row(2, 2)", x.row(2, 2), -1);
        x.sync();
        Check.same("row(1, 2)", x.row(1, 2), 2);
        Check.same("row(2, 2)", x.row(2, 2), 3);
        x.off();
        Check.same("row(0, 0) while OFF", x.row(0, 0), NONE);
        x.start();
        Check.same("row(2, 2)", x.row(2, 2), 3);
        Check.same("row(2, 0)", x.row(2, 0), 1);
    }

    private static void at() {
        Check.part("10, at");
        Disk x = new Disk(5);
        Check.same("at(0, 0) without rows", x.at(0, 0), NONE);
        x.add(255);
        x.add(128);
        x.end(0);
        x.end(0);
        for (int turn = 0; turn < 3; turn++) {
            Check.same("at(0, 0)", x.at(0, 0), 255);
            Check.same("at(0, 1)", x.at(0, 1), 128);
            Check.same("at(0, 2)", x.at(0, 2), THROWS);
            Check.same("at(0, -1)", x.at(0, -1), THROWS);
            Check.same("at(0, max)", x.at(0, Integer.MAX_VALUE), THROWS);
            Check.same("at(0, min)", x.at(0, Integer.MIN_VALUE), THROWS);
            Check.same("at(1, 0) of an empty row", x.at(1, 0), THROWS);
            Check.same("at(2, 0)", x.at(2, 0), NONE);
            Check.same("at(2, 99)", x.at(2, 99), NONE);
            Check.same("at(-1, -1)", x.at(-1, -1), NONE);
            if (turn == 0) {
                x.sync();
            } else {
                x.off();
                Check.same("at(0, 0) while OFF", x.at(0, 0), NONE);
                x.start();
            }
        }
    }

    private static void poke() {
        Check.part("11, poke");
        Disk x = new Disk(5);
        x.add(1);
        x.end(1);
        x.sync();
        Check.same("poke(2, 7, 0x103)", x.poke(2, 7, 0x103), 2);
        Check.same("peek(2, 7)", x.peek(2, 7), 2);
        Check.same("at(0, 0): rows stay", x.at(0, 0), 1);
        Check.same("poke(2, 7, -1)", x.poke(2, 7, -1), 253);
        Check.same("poke(2, 7, 0)", x.poke(2, 7, 0), 253);
        Check.same("poke(-1, 0, 1)", x.poke(-1, 0, 1), NONE);
        Check.same("poke(5, 0, 1)", x.poke(5, 0, 1), NONE);
        Check.same("poke(0, -1, 1)", x.poke(0, -1, 1), NONE);
        Check.same("poke(0, 64, 1)", x.poke(0, 64, 1), NONE);
        Check.same("poke(1, -64, 1)", x.poke(1, -64, 1), NONE);
        Check.same("poke(67108864, 0, 1)", x.poke(67108864, 0, 1), NONE);
        Check.same("poke(min, max, 1)", x.poke(Integer.MIN_VALUE, Integer.MAX_VALUE, 1), NONE);
        x.dueSector(0, new int[64]);
        x.dueSector(1, Bytes.head(1, 1));
        Check.same("poke(4, 63, 255)", x.poke(4, 63, 255), 255);
        x.off();
        Check.same("poke(4, 63, 1) while OFF", x.poke(4, 63, 1), 254);
    }

    private static void peek() {
        Check.part("12, peek");
        Disk x = new Disk(5);
        Check.same("peek(0, 0)", x.peek(0, 0), 0);
        Check.same("peek(4, 63)", x.peek(4, 63), 0);
        Check.same("peek(5, 0)", x.peek(5, 0), NONE);
        Check.same("peek(-1, 0)", x.peek(-1, 0), NONE);
        Check.same("peek(0, 64)", x.peek(0, 64), NONE);
        Check.same("peek(0, -1)", x.peek(0, -1), NONE);
        Check.same("peek(67108864, 0)", x.peek(67108864, 0), NONE);
        Check.same("peek(max, max)", x.peek(Integer.MAX_VALUE, Integer.MAX_VALUE), NONE);
        Check.same("peek(min, min)", x.peek(Integer.MIN_VALUE, Integer.MIN_VALUE), NONE);
        x.poke(3, 2, 200);
        x.off();
        Check.same("peek(3, 2) while OFF", x.peek(3, 2), 200);
    }

    private static void wrong() {
        Check.part("13, wrong");
        Disk x = new Disk(5);
        Check.same("wrong(0)", x.wrong(0), NONE);
        x.poke(1, 0, 1);
        x.poke(3, 59, 128);
        x.poke(4, 63, 1);
        int[] want = {1, 3, 4, NONE, NONE};
        for (int i = 0; i < want.length; i++) {
            Check.same("wrong(" + i + ")", x.wrong(i), want[i]);
        }
        Check.same("wrong(-1)", x.wrong(-1), NONE);
        Check.same("wrong(max)", x.wrong(Integer.MAX_VALUE), NONE);
        Check.same("wrong(min)", x.wrong(Integer.MIN_VALUE), NONE);
        x.off();
        Check.same("wrong(1) while OFF", x.wrong(1), 3);
        x.poke(3, 59, 128);
        Check.same("wrong(1)", x.wrong(1), 4);
        x.poke(0, 60, 1);
        Check.same("wrong(0)", x.wrong(0), 0);
    }

    private static void bad() {
        Check.part("14, bad");
        Disk x = new Disk(7);
        Check.same("bad()", x.bad(), 0);
        for (int i = 0; i < 4; i++) {
            x.put(i, i);
            x.sync();
        }
        x.poke(3, 20, 1);
        x.poke(5, 62, 1);
        x.poke(6, 1, 1);
        Check.same("bad() before a start", x.bad(), 0);
        x.off();
        Check.same("bad() before a start", x.bad(), 0);
        Check.same("start()", x.start(), 2);
        Check.same("bad(): sector 6 does not belong to the head", x.bad(), 2);
        Check.same("row(0, 0)", x.row(0, 0), 0);
        Check.same("row(1, 0)", x.row(1, 0), 2);
        Check.same("row(1, 2)", x.row(1, 2), 4);
        x.poke(3, 20, 1);
        Check.same("bad() stays", x.bad(), 2);
        x.off();
        Check.same("bad() while OFF", x.bad(), 2);
        x.poke(0, 0, 1);
        x.poke(1, 0, 1);
        x.start();
        Check.same("bad() behind a start that found no head", x.bad(), 2);
        x.poke(0, 0, 1);
        x.start();
        Check.same("bad()", x.bad(), 1);
        Check.same("end(0): behind the bad sector", x.end(0), 3);
        x.sync();
        Check.same("row(3, 2)", x.row(3, 2), 6);
    }

    private static void backup() {
        Check.part("15, backup");
        Disk x = new Disk(5);
        Check.same("backup()", x.backup(), 0);
        x.end(1);
        x.sync();
        x.sync();
        x.poke(4, 4, 4);
        Check.same("backup() in place of the one before", x.backup(), 2);
        x.poke(4, 4, 4);
        x.off();
        Check.same("backup() while OFF", x.backup(), STATE);
        Check.same("differ(): the backup stays", x.differ(), 1);
        x.restore();
        Check.same("peek(4, 4)", x.peek(4, 4), 4);
        x.dueSector(0, Bytes.head(2, 1));
        x.poke(0, 0, 1);
        x.start();
        Check.same("backup(): the number of the head that was read", x.backup(), 1);
    }

    private static void restore() {
        Check.part("16, restore");
        Disk x = new Disk(5);
        Check.same("restore() while ON", x.restore(), STATE);
        x.off();
        Check.same("restore() without a backup", x.restore(), STATE);
        x.start();
        x.put(1, 5);
        x.sync();
        x.backup();
        Check.same("restore() while ON", x.restore(), STATE);
        x.put(2, 6);
        x.sync();
        x.off();
        Check.same("restore()", x.restore(), 1);
        Check.same("state(2)", x.state(2), 0);
        x.dueSector(0, new int[64]);
        x.dueSector(1, Bytes.head(1, 1));
        x.dueSector(3, new int[64]);
        x.poke(2, 7, 1);
        Check.same("restore() once more", x.restore(), 1);
        Check.same("start()", x.start(), 1);
        Check.same("at(0, 4)", x.at(0, 4), 104);
        Check.same("state(0)", x.state(0), 1);
    }

    private static void differ() {
        Check.part("17, differ");
        Disk x = new Disk(5);
        Check.same("differ() without a backup", x.differ(), NONE);
        x.backup();
        Check.same("differ()", x.differ(), 0);
        x.end(0);
        x.sync();
        Check.same("differ()", x.differ(), 2);
        x.poke(4, 0, 1);
        x.poke(4, 63, 1);
        Check.same("differ()", x.differ(), 3);
        x.poke(4, 0, 1);
        Check.same("differ(): the last byte counts", x.differ(), 3);
        x.poke(4, 63, 1);
        Check.same("differ()", x.differ(), 2);
        x.poke(0, 0, 1);
        Check.same("differ(): the first byte counts", x.differ(), 3);
        x.poke(0, 0, 1);
        x.off();
        Check.same("differ() while OFF", x.differ(), 2);
        x.restore();
        Check.same("differ()", x.differ(), 0);
    }

    private static void state() {
        Check.part("18, state");
        Disk x = new Disk(6);
        dueState(x, 0, 0, 1);
        x.put(0, 40);
        x.put(0, 40);
        dueState(x, 0, 0, 1);
        x.sync();
        dueState(x, 1, 2, 1);
        x.sync();
        dueState(x, 2, 2, 1);
        x.end(1);
        x.sync();
        dueState(x, 3, 3, 1);
        x.cut(1, 0);
        dueState(x, 3, 3, 0);
        x.start();
        dueState(x, 2, 2, 1);
        x.off();
        dueState(x, 2, 2, 0);
    }

    private static void dueState(Disk x, int number, int count, int on) {
        Check.same("state(0)", x.state(0), number);
        Check.same("state(1)", x.state(1), count);
        Check.same("state(2)", x.state(2), on);
        Check.same("state(3)", x.state(3), 6);
        Check.same("state(4)", x.state(4), NONE);
        Check.same("state(-1)", x.state(-1), NONE);
        Check.same("state(max)", x.state(Integer.MAX_VALUE), NONE);
        Check.same("state(min)", x.state(Integer.MIN_VALUE), NONE);
    }
}
