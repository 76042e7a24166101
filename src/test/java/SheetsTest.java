/** Promises 29 to 34. */
final class SheetsTest {
    public static void main(String[] args) {
        sheet();
        write();
        writeBits();
        copy();
        copyFindings();
        lays();
        book();
        read();
        Due.end();
    }

    private static void sheet() {
        WindowChairs x = new WindowChairs();
        int[] bits = {8, 16, 64};
        for (int s = 0; s < 4; s++) {
            for (int b : bits) {
                Due.due("29: of " + b, x.sheet(s, b, 40), 40);
                Due.due("29: 0", x.write(s, 39, 5), 0);
                Due.due("29: anew", x.sheet(s, b, 40), 40);
                Due.due("29: 0 anew", x.write(s, 39, 5), 0);
                Due.due("29: fewer", x.sheet(s, b, 3), 3);
                Due.due("29: fewer", x.write(s, 3, 5), Due.BEYOND);
                Due.due("29: none", x.sheet(s, b, 0), 0);
                Due.due("29: not missing", x.write(s, 0, 5), Due.BEYOND);
            }
            Due.due("29: missing", x.sheet(s, 0, 7), 0);
            Due.due("29: missing", x.write(s, 0, 5), Due.MISSING);
            Due.due("29: missing", x.sheet(s, 0, 0), 0);
        }
        x.sheet(1, 8, 2);
        x.write(1, 1, 9);
        Due.due("29: no such sheet", x.sheet(-1, 8, 1), Due.BEYOND);
        Due.due("29: no such sheet", x.sheet(4, 8, 1), Due.BEYOND);
        for (int other : new int[] {-1, 1, 7, 9, 15, 32, 63, 65, 128}) {
            Due.due("29: other bits", x.sheet(1, other, 1), Due.BEYOND);
        }
        Due.due("29: sheet before size", x.sheet(4, 8, -1), Due.BEYOND);
        Due.due("29: bits before size", x.sheet(1, 32, -1), Due.BEYOND);
        Due.due("29: size", x.sheet(1, 8, -1), Due.SIZE);
        Due.due("29: size, missing", x.sheet(1, 0, -1), Due.SIZE);
        Due.due("29: above 40", x.sheet(1, 16, 41), Due.BEYOND);
        Due.due("29: above 40, missing", x.sheet(1, 0, 41), Due.BEYOND);
        for (int far : Due.FAR) {
            Due.due("29: no such sheet", x.sheet(far, 8, 1), Due.BEYOND);
            Due.due("29: other bits", x.sheet(1, far, 1), Due.BEYOND);
            Due.due("29: size", x.sheet(1, 8, far), far < 0 ? Due.SIZE : Due.BEYOND);
        }
        Due.due("29: changes nothing", x.write(1, 1, 9), 9);
    }

    private static void write() {
        WindowChairs x = new WindowChairs();
        x.sheet(0, 64, 40);
        for (int i = 0; i < 40; i++) {
            Due.due("30: was", x.write(0, i, 1L << i), 0);
        }
        for (int i = 0; i < 40; i++) {
            Due.due("30: was", x.write(0, i, -i), 1L << i);
        }
        Due.due("30: no such sheet", x.write(-1, 0, 0), Due.BEYOND);
        Due.due("30: no such sheet", x.write(4, 99, 0), Due.BEYOND);
        Due.due("30: missing first", x.write(1, -1, 0), Due.MISSING);
        Due.due("30: no such number", x.write(0, -1, 0), Due.BEYOND);
        Due.due("30: no such number", x.write(0, 40, 0), Due.BEYOND);
        for (int far : Due.FAR) {
            Due.due("30: no such sheet", x.write(far, 0, 0), Due.BEYOND);
            Due.due("30: no such number", x.write(0, far, 0), Due.BEYOND);
        }
        int were = x.status(-1);
        x.write(0, 0, Due.BEYOND);
        Due.due("30: a number like a finding", x.write(0, 0, 0), Due.BEYOND);
        Due.due("30: is none", x.status(-1), were);
    }

    private static void writeBits() {
        WindowChairs x = new WindowChairs();
        x.sheet(0, 8, 1);
        x.sheet(1, 16, 1);
        x.sheet(2, 64, 1);
        long[] given = {127, 128, 255, 256, -1, 32767, 32768, 65535, 65536, 0x123456789ABCDEFL, Long.MIN_VALUE, Long.MAX_VALUE};
        for (long v : given) {
            x.write(0, 0, v);
            x.write(1, 0, v);
            x.write(2, 0, v);
            Due.due("30: 8 bits of " + v, x.write(0, 0, 0), (byte) v);
            Due.due("30: 16 bits of " + v, x.write(1, 0, 0), (short) v);
            Due.due("30: 64 bits of " + v, x.write(2, 0, 0), v);
        }
    }

    private static WindowChairs filled() {
        WindowChairs x = new WindowChairs();
        x.sheet(0, 8, 6);
        x.sheet(1, 8, 4);
        for (int i = 0; i < 6; i++) {
            x.write(0, i, i + 1);
        }
        return x;
    }

    /** Number by number, as digits; what is told is left as it was. */
    private static long digits(WindowChairs x, int s, int n) {
        long all = 0;
        for (int i = 0; i < n; i++) {
            long v = x.write(s, i, 0);
            x.write(s, i, v);
            all = all * 10 + v;
        }
        return all;
    }

    private static void copy() {
        WindowChairs x = filled();
        Due.due("31: three", x.copy(0, 2, 1, 1, 3), 3);
        Due.due("31: came", digits(x, 1, 4), 345);
        Due.due("31: stayed", digits(x, 0, 6), 123456);
        Due.due("31: up", x.copy(0, 0, 0, 2, 4), 4);
        Due.due("31: as they all were", digits(x, 0, 6), 121234);
        x = filled();
        Due.due("31: down", x.copy(0, 2, 0, 0, 4), 4);
        Due.due("31: as they all were", digits(x, 0, 6), 345656);
        Due.due("31: none", x.copy(0, 6, 1, 4, 0), 0);
        Due.due("31: all", x.copy(1, 0, 0, 2, 4), 4);
        Due.due("31: all", digits(x, 0, 6), 340000);
    }

    private static void copyFindings() {
        WindowChairs x = filled();
        x.sheet(2, 16, 4);
        Due.due("31: no such sheet", x.copy(-1, 0, 0, 0, 0), Due.BEYOND);
        Due.due("31: no such sheet", x.copy(4, 0, 3, 0, 0), Due.BEYOND);
        Due.due("31: no such sheet", x.copy(3, 0, 4, 0, 0), Due.BEYOND);
        Due.due("31: no such sheet", x.copy(0, 0, -1, 0, 0), Due.BEYOND);
        Due.due("31: missing", x.copy(3, -1, 2, 0, 0), Due.MISSING);
        Due.due("31: missing", x.copy(2, 0, 3, -1, 0), Due.MISSING);
        Due.due("31: missing", x.copy(3, 0, 3, 0, 0), Due.MISSING);
        Due.due("31: kind", x.copy(0, -1, 2, 0, 0), Due.KIND);
        Due.due("31: kind", x.copy(2, 0, 1, 0, 99), Due.KIND);
        int[][] wrong = {{-1, 0, 1}, {0, -1, 1}, {0, 0, -1}, {0, 0, 5}, {3, 0, 4}, {0, 1, 4}, {7, 0, 0}, {0, 5, 0},
            {6, 0, 1}, {0, 4, 1}, {-1, 0, 0}, {0, -1, 0}};
        for (int[] w : wrong) {
            Due.due("31: beyond", x.copy(0, w[0], 1, w[1], w[2]), Due.BEYOND);
        }
        for (int far : Due.FAR) {
            Due.due("31: no such sheet", x.copy(far, 0, 1, 0, 1), Due.BEYOND);
            Due.due("31: no such sheet", x.copy(0, 0, far, 0, 1), Due.BEYOND);
            Due.due("31: beyond", x.copy(0, far, 1, 0, 1), Due.BEYOND);
            Due.due("31: beyond", x.copy(0, 0, 1, far, 1), Due.BEYOND);
            Due.due("31: beyond", x.copy(0, 0, 1, 0, far), Due.BEYOND);
            Due.due("31: beyond", x.copy(0, far, 1, far, far), Due.BEYOND);
        }
        Due.due("31: changes nothing", digits(x, 0, 6) * 10000 + digits(x, 1, 4), 1234560000L);
    }

    private static void lays() {
        WindowChairs x = new WindowChairs();
        Due.due("32: no such sheet", x.lays(-1), Due.BEYOND);
        Due.due("32: no such sheet", x.lays(4), Due.BEYOND);
        Due.due("32: missing", x.lays(0), Due.MISSING);
        for (int far : Due.FAR) {
            Due.due("32: no such sheet", x.lays(far), Due.BEYOND);
        }
        x.sheet(0, 64, 4);
        x.write(0, 0, 20);
        x.write(0, 1, 21);
        x.write(0, 2, -1);
        Due.due("32: two of four", x.lays(0), 2);
        Due.due("32: views", x.chairOf(0, 0) * 1000 + x.chairOf(1, 0) * 100 + x.chairOf(2, 0) * 10 + x.chairOf(3, 0), 20330);
        Due.due("32: no further", x.chairOf(4, 0), 3);
        x.write(0, 3, (1L << 32) + 5);
        x.write(0, 0, Long.MIN_VALUE);
        Due.due("32: large ones", x.lays(0), 0);
        x.sheet(0, 8, 40);
        x.write(0, 7, 7);
        Due.due("32: eight of forty", x.lays(0), 8);
        Due.due("32: the last", x.chairOf(7, 0), 7);
        x.sheet(0, 16, 0);
        Due.due("32: none", x.lays(0), 0);
        Due.due("32: draught stays", x.chairOf(7, 1), 1);
    }

    private static void book() {
        WindowChairs x = Due.with(0, 4);
        x.sit(0, 0);
        x.set(1, 2, 0);
        Due.due("33: no such sheet", x.book(4, 9), Due.BEYOND);
        Due.due("33: no such sheet", x.book(-1, 0), Due.BEYOND);
        Due.due("33: missing first", x.book(0, 9), Due.MISSING);
        x.sheet(0, 8, 5);
        Due.due("33: person", x.book(0, 2), Due.BEYOND);
        Due.due("33: person", x.book(0, -1), Due.BEYOND);
        for (int far : Due.FAR) {
            Due.due("33: no such sheet", x.book(far, 0), Due.BEYOND);
            Due.due("33: person", x.book(0, far), Due.BEYOND);
        }
        String was = Due.look(x);
        Due.due("33: five", x.book(0, 0), 5);
        // In 0 till the queen takes it at hour 2, then in 2, where she sat, then beside her.
        Due.due("33: chairs", digits(x, 0, 5), 211);
        Due.due("33: five", x.book(0, 1), 5);
        Due.due("33: stands", x.write(0, 0, 0), -1);
        Due.due("33: chairs", digits(x, 0, 5), 2000);
        Due.due("33: changes nothing", Due.look(x), was);
        x.sheet(1, 64, 1);
        x.book(1, 1);
        Due.due("33: stands, 64 bits", x.write(1, 0, 0), -1);
        x.sheet(1, 16, 40);
        Due.due("33: forty", x.book(1, 0), 40);
        Due.due("33: the last", x.write(1, 39, 0), x.on(0, 39, 0));
        x.sheet(1, 16, 0);
        Due.due("33: none", x.book(1, 0), 0);
    }

    private static void read() {
        WindowChairs x = Due.with(0, 4);
        x.sit(0, 0);
        x.set(1, 2, 0);
        Due.due("34: no such sheet", x.read(4, 9), Due.BEYOND);
        Due.due("34: no such sheet", x.read(-1, 0), Due.BEYOND);
        Due.due("34: missing first", x.read(0, 9), Due.MISSING);
        x.sheet(0, 8, 0);
        Due.due("34: person", x.read(0, 2), Due.BEYOND);
        Due.due("34: person", x.read(0, -1), Due.BEYOND);
        for (int far : Due.FAR) {
            Due.due("34: no such sheet", x.read(far, 0), Due.BEYOND);
            Due.due("34: person", x.read(0, far), Due.BEYOND);
        }
        Due.due("34: no number, all pairs", x.read(0, 1), 54);
        x.sheet(0, 8, 3);
        String was = Due.look(x);
        x.book(0, 1);
        // Stands, in 2, in 0: only a queen who claims 0 gets there.
        Due.due("34: one pair", x.read(0, 1), 1);
        Due.due("34: changes nothing", Due.look(x), was);
        x.write(0, 2, 5);
        Due.due("34: not so", x.read(0, 1), 0);
        x.sheet(0, 16, 1);
        x.write(0, 0, 65535);
        Due.due("34: stands, all pairs", x.read(0, 1), 54);
        Due.due("34: it doesn't", x.read(0, 0), 0);
        x.turn(1, 0);
        x.set(1, 2, -1);
        x.sheet(0, 64, 2);
        x.write(0, 0, -1);
        x.write(0, 1, 1);
        Due.due("34: by hand", x.read(0, 1), byHand(x));
        x.write(0, 1, (1L << 32) + 1);
        Due.due("34: not cut", x.read(0, 1), 0);
    }

    /** The same asked with turn, set and on. */
    private static int byHand(WindowChairs x) {
        int kind = x.of(1, 0);
        int claim = x.of(1, 2);
        int pairs = 0;
        for (int k = 0; k < 6; k++) {
            for (int c = -1; c < 8; c++) {
                x.turn(1, k);
                x.set(1, 2, c);
                if (x.on(1, 0, 0) == -1 && x.on(1, 1, 0) == 1) {
                    pairs++;
                }
            }
        }
        x.turn(1, kind);
        x.set(1, 2, claim);
        return pairs;
    }
}
