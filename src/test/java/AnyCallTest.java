import java.util.Random;

/**
 * No call throws by itself, for any arguments in any state. The answers are not looked at here, so
 * these runs alone may go on behind the 512th call.
 */
public final class AnyCallTest {
    private static final int CALLS = 20000;
    private static final int[] EDGES = {
        Integer.MIN_VALUE, Integer.MIN_VALUE + 1, -64, -2, -1, 0, 1, 2, 3, 4, 38, 39, 40, 41, 54, 55, 56,
        59, 60, 63, 64, 65, 127, 128, 255, 256, 299, 300, 1 << 25, 1 << 26, Integer.MAX_VALUE - 1,
        Integer.MAX_VALUE,
    };

    private final Random random;
    private final LibraryDisk disk;

    private AnyCallTest(int sectors) {
        random = new Random(sectors);
        disk = new LibraryDisk(sectors);
    }

    public static void main(String[] args) {
        for (int sectors : EDGES) {
            Check.part("a disk of " + sectors);
            AnyCallTest test = new AnyCallTest(sectors);
            for (int call = 0; call < CALLS && Check.allRight(); call++) {
                test.step(call);
            }
        }
        Check.finish();
    }

    private int any() {
        return random.nextInt(8) == 0 ? random.nextInt() : EDGES[random.nextInt(EDGES.length)];
    }

    private int small() {
        return random.nextInt(4) == 0 ? any() : random.nextInt(5);
    }

    private void step(int call) {
        int which = random.nextInt(25);
        try {
            if (which < 17) {
                makeCall(which);
            } else {
                makeOftenNeededCall(which);
            }
        } catch (RuntimeException e) {
            Check.fault("call " + call + " of sort " + which + " threw " + e);
        }
    }

    private void makeCall(int which) {
        switch (which) {
            case 0: disk.add(any()); break;
            case 1: disk.end(small()); break;
            case 2: disk.sync(); break;
            case 3: disk.cut(small(), any()); break;
            case 4: disk.off(); break;
            case 5: disk.start(); break;
            case 6: disk.rows(); break;
            case 7: disk.row(any(), small()); break;
            case 8: lookAt(small(), any()); break;
            case 9: disk.poke(small(), any(), any()); break;
            case 10: disk.peek(any(), any()); break;
            case 11: disk.wrong(any()); break;
            case 12: disk.bad(); break;
            case 13: disk.backup(); break;
            case 14: disk.restore(); break;
            case 15: disk.differ(); break;
            default: disk.state(any()); break;
        }
    }

    /** More rows and starts, and RIGHT heads in place of spoilt ones: else most runs would stay OFF. */
    private void makeOftenNeededCall(int which) {
        if (which < 23) {
            disk.add(any());
            disk.end(which & 3);
        } else if (disk.start() == LibraryDisk.STATE && disk.state(2) == 0) {
            forge(random.nextInt(2), Bytes.head(random.nextInt() & 0xFFFFFFFFL, small() & 0xFFFFFFFFL));
            forge(2, Bytes.log(0, random.nextInt(60), random.nextInt(4), random.nextInt(50)));
        }
    }

    private void forge(int sector, int[] wanted) {
        for (int i = 0; i < wanted.length; i++) {
            disk.poke(sector, i, disk.peek(sector, i) ^ wanted[i]);
        }
    }

    /** The machine's own message tells an index; the document's exception is thrown by the class. */
    private void lookAt(int row, int i) {
        int size = disk.row(row, 1);
        try {
            disk.at(row, i);
        } catch (ArrayIndexOutOfBoundsException e) {
            boolean due = size != LibraryDisk.NONE && (i < 0 || i >= size);
            if (!due || String.valueOf(e.getMessage()).startsWith("Index ")) {
                Check.fault("at(" + row + ", " + i + ") of a row of " + size + " threw " + e);
            }
        }
    }
}
