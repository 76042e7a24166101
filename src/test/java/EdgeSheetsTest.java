/** Promises 29 to 34: their boundary cases, sentence by sentence. */
final class EdgeSheetsTest {
    private static final int[] BITS = {8, 16, 64};

    public static void main(String[] args) {
        sheetWhich();
        sheetBits();
        sheetNumbers();
        sheetSize();
        sheetSizeWithBits0();
        sheetFindingsInOrder();
        sheetAllZero();
        writeWhich();
        writeMissing();
        writeNumber();
        writeLowestBits();
        copyWhich();
        copyMissing();
        copyKind();
        copyHasNotSoMany();
        copyAsTheyAllWere();
        copyFindingsInOrder();
        laysFindings();
        laysZeroToTwenty();
        laysStandForNone();
        bookFindings();
        bookAsManyAsItHas();
        readFindings();
        readNoNumbers();
        readStands();
        readEveryPair();
        Due.end();
    }

    private static void sheetWhich() {
        for (int bits : BITS) {
            Edge.range("29: sheet", Edge::some, (x, s) -> x.sheet(s, bits, 9), Edge.end(0, 9), Edge.end(3, 9));
        }
        Edge.range("29: sheet, missing", Edge::some, (x, s) -> x.sheet(s, 0, 9), Edge.end(0, 0), Edge.end(3, 0));
        Edge.range("29: sheet, new", WindowChairs::new, (x, s) -> x.sheet(s, 8, 9), Edge.end(0, 9), Edge.end(3, 9));
    }

    private static void sheetBits() {
        int[] may = {0, 8, 16, 64};
        for (int bits : may) {
            Due.due("29: bits " + bits, Edge.some().sheet(1, bits, 1), bits == 0 ? 0 : 1);
        }
        Edge.beyond("29: bits", Edge::some, (x, b) -> x.sheet(1, b, 1), -64, -16, -8, -1, 1, 7, 9, 15, 17, 24, 32, 63, 65, 128);
        Edge.beyond("29: bits", Edge::some, (x, b) -> x.sheet(1, b, 1), Due.FAR);
        Edge.beyond("29: bits, n 0", WindowChairs::new, (x, b) -> x.sheet(1, b, 0), -1, 1, 7, 9, 32);
    }

    private static void sheetNumbers() {
        for (int bits : BITS) {
            Due.due("29: 0 numbers", Edge.some().sheet(2, bits, 0), 0);
            Due.due("29: 40 numbers", Edge.some().sheet(2, bits, 40), 40);
            int[] many = {0, 1, 39, 40};
            for (int n : many) {
                WindowChairs x = new WindowChairs();
                x.sheet(3, bits, n);
                Due.due("29: the last of " + n, x.write(3, n - 1, 5), n == 0 ? Due.BEYOND : 0);
                Due.due("29: none behind " + n, x.write(3, n, 5), Due.BEYOND);
            }
            Edge.beyond("29: above 40", Edge::some, (x, n) -> x.sheet(2, bits, n), 41, 42, 1000, Integer.MAX_VALUE);
        }
    }

    private static void sheetSize() {
        int[] below = {-1, -2, -40, -41, Integer.MIN_VALUE, Integer.MIN_VALUE + 1};
        for (int bits : BITS) {
            for (int n : below) {
                Edge.refused("29: n " + n, Edge::some, x -> x.sheet(1, bits, n), Due.SIZE);
            }
        }
    }

    private static void sheetSizeWithBits0() {
        Edge.refused("29: -1, bits 0", Edge::some, x -> x.sheet(1, 0, -1), Due.SIZE);
        Edge.refused("29: far below, bits 0", Edge::some, x -> x.sheet(1, 0, Integer.MIN_VALUE), Due.SIZE);
        Edge.refused("29: 41, bits 0", Edge::some, x -> x.sheet(1, 0, 41), Due.BEYOND);
        Edge.refused("29: far above, bits 0", Edge::some, x -> x.sheet(1, 0, Integer.MAX_VALUE), Due.BEYOND);
        int[] may = {0, 1, 40};
        for (int n : may) {
            WindowChairs x = Edge.some();
            Due.due("29: 0 if it is missing, n " + n, x.sheet(1, 0, n), 0);
            Due.due("29: it is, n " + n, x.write(1, 0, 0), Due.MISSING);
        }
        Edge.asked("29: missing already", Edge::some, x -> x.sheet(3, 0, 40), 0);
    }

    private static void sheetFindingsInOrder() {
        Edge.refusedAnywhere("29: no such sheet, n -1", x -> x.sheet(4, 8, -1), Due.BEYOND);
        Edge.refusedAnywhere("29: no such sheet, n -1", x -> x.sheet(-1, 0, -1), Due.BEYOND);
        Edge.refusedAnywhere("29: other bits, n -1", x -> x.sheet(0, 9, -1), Due.BEYOND);
        Edge.refusedAnywhere("29: n -1", x -> x.sheet(0, 16, -1), Due.SIZE);
        Edge.refusedAnywhere("29: n 41", x -> x.sheet(0, 16, 41), Due.BEYOND);
    }

    private static void sheetAllZero() {
        for (int bits : BITS) {
            WindowChairs x = new WindowChairs();
            for (int turn = 0; turn < 2; turn++) {
                x.sheet(2, bits, 40);
                for (int i = 0; i < 40; i++) {
                    Due.due("29: all 0, " + i, x.write(2, i, -1), 0);
                }
            }
            x.sheet(2, bits, 1);
            x.sheet(2, bits, 40);
            Due.due("29: 0 behind what was fewer", x.write(2, 39, 1), 0);
            x.sheet(2, 0, 40);
            x.sheet(2, bits, 40);
            Due.due("29: 0 behind what was missing", x.write(2, 39, 1), 0);
            x.sheet(1, bits, 40);
            Due.due("29: another sheet stays", x.write(2, 39, 1), 1);
        }
    }

    private static void writeWhich() {
        Edge.range("30: sheet", EdgeSheetsTest::three, (x, s) -> x.write(s, 0, 9), Edge.end(0, 10), Edge.end(3, 13));
        Edge.beyond("30: sheet, number, all wrong", Edge::some, (x, s) -> x.write(s, -1, 9), -1, 4);
    }

    /** Four sheets of 8 bits and three numbers: 10 11 12, and so on from each sheet's first. */
    private static WindowChairs three() {
        WindowChairs x = new WindowChairs();
        for (int s = 0; s < 4; s++) {
            x.sheet(s, 8, 3);
            for (int i = 0; i < 3; i++) {
                x.write(s, i, 10 + s + i);
            }
        }
        return x;
    }

    private static void writeMissing() {
        int[] numbers = {-1, 0, 39, 40, Integer.MIN_VALUE, Integer.MAX_VALUE};
        for (int i : numbers) {
            Edge.refused("30: missing, number " + i, Edge::some, x -> x.write(3, i, 1), Due.MISSING);
        }
        for (int s = 0; s < 4; s++) {
            int sheet = s;
            Edge.refused("30: missing, sheet " + s, WindowChairs::new, x -> x.write(sheet, 0, 1), Due.MISSING);
        }
    }

    private static void writeNumber() {
        Edge.range("30: number of 3", EdgeSheetsTest::three, (x, i) -> x.write(1, i, 9), Edge.end(0, 11), Edge.end(2, 13));
        Edge.range("30: number of 40", Edge::full, (x, i) -> x.write(0, i, 9), Edge.end(0, 0), Edge.end(39, 7));
        Edge.beyond("30: number of none", () -> {
            WindowChairs x = Edge.some();
            x.sheet(1, 16, 0);
            return x;
        }, (x, i) -> x.write(1, i, 9), -1, 0, 1, 39, 40);
    }

    private static void writeLowestBits() {
        long[][] bytes = {{127, 127}, {128, -128}, {-128, -128}, {-129, 127}, {255, -1}, {256, 0}, {-1, -1}, {-256, 0},
            {1L << 32, 0}, {(1L << 32) + 127, 127}, {Long.MAX_VALUE, -1}, {Long.MIN_VALUE, 0}};
        long[][] shorts = {{32767, 32767}, {32768, -32768}, {-32768, -32768}, {-32769, 32767}, {65535, -1}, {65536, 0}, {-1, -1},
            {128, 128}, {255, 255}, {1L << 32, 0}, {Long.MAX_VALUE, -1}, {Long.MIN_VALUE, 0}};
        long[][] longs = {{128, 128}, {32768, 32768}, {1L << 31, 1L << 31}, {1L << 32, 1L << 32}, {-1, -1},
            {Long.MAX_VALUE, Long.MAX_VALUE}, {Long.MIN_VALUE, Long.MIN_VALUE}, {Due.BEYOND, Due.BEYOND}};
        long[][][] all = {bytes, shorts, longs};
        WindowChairs x = Edge.some();
        for (int s = 0; s < 3; s++) {
            for (long[] pair : all[s]) {
                x.write(s, 1, pair[0]);
                Due.due("30: " + pair[0] + " of " + BITS[s] + " bits", x.write(s, 1, 0), pair[1]);
            }
        }
        Due.due("30: a number like a finding is none", x.status(-1), 0);
    }

    private static void copyWhich() {
        Edge.range("31: from sheet", EdgeSheetsTest::three, (x, s) -> x.copy(s, 0, 1, 0, 3), Edge.end(0, 3), Edge.end(3, 3));
        Edge.range("31: to sheet", EdgeSheetsTest::three, (x, t) -> x.copy(1, 0, t, 0, 3), Edge.end(0, 3), Edge.end(3, 3));
    }

    private static void copyMissing() {
        Edge.refused("31: from one that is missing", Edge::some, x -> x.copy(3, 0, 0, 0, 0), Due.MISSING);
        Edge.refused("31: to one that is missing", Edge::some, x -> x.copy(0, 0, 3, 0, 0), Due.MISSING);
        Edge.refused("31: both are", Edge::some, x -> x.copy(3, 0, 3, 0, 0), Due.MISSING);
        Edge.refused("31: both are, new", WindowChairs::new, x -> x.copy(0, 0, 1, 0, 0), Due.MISSING);
    }

    private static void copyKind() {
        for (int s = 0; s < 3; s++) {
            for (int t = 0; t < 3; t++) {
                int from = s;
                int to = t;
                if (s != t) {
                    Edge.refused("31: kind " + s + " " + t, Edge::some, x -> x.copy(from, 0, to, 0, 1), Due.KIND);
                    Edge.refused("31: kind, none " + s + " " + t, Edge::some, x -> x.copy(from, 0, to, 0, 0), Due.KIND);
                }
            }
        }
    }

    private static void copyHasNotSoMany() {
        Edge.range("31: n", EdgeSheetsTest::three, (x, n) -> x.copy(0, 0, 1, 0, n), Edge.end(0, 0), Edge.end(3, 3));
        Edge.range("31: from, 1", EdgeSheetsTest::three, (x, from) -> x.copy(0, from, 1, 0, 1), Edge.end(0, 1), Edge.end(2, 1));
        Edge.range("31: to, 1", EdgeSheetsTest::three, (x, to) -> x.copy(0, 0, 1, to, 1), Edge.end(0, 1), Edge.end(2, 1));
        Edge.range("31: from, 2", EdgeSheetsTest::three, (x, from) -> x.copy(0, from, 1, 0, 2), Edge.end(0, 2), Edge.end(1, 2));
        Edge.range("31: to, 2", EdgeSheetsTest::three, (x, to) -> x.copy(0, 0, 1, to, 2), Edge.end(0, 2), Edge.end(1, 2));
        Edge.range("31: from, none", EdgeSheetsTest::three, (x, from) -> x.copy(0, from, 1, 0, 0), Edge.end(0, 0), Edge.end(3, 0));
        Edge.range("31: to, none", EdgeSheetsTest::three, (x, to) -> x.copy(0, 0, 1, to, 0), Edge.end(0, 0), Edge.end(3, 0));
        // Sums that wrap around 32 bits.
        int most = Integer.MAX_VALUE;
        int[][] wrong = {{most, 0, 1}, {most, 0, most}, {1, 0, most}, {0, most, 1}, {0, 1, most}, {3, 3, most - 2}, {-1, 0, most},
            {Integer.MIN_VALUE, 0, Integer.MIN_VALUE}, {most, most, 2}};
        for (int[] w : wrong) {
            Edge.refused("31: wraps", EdgeSheetsTest::three, x -> x.copy(0, w[0], 1, w[1], w[2]), Due.BEYOND);
        }
        WindowChairs x = three();
        x.sheet(1, 8, 2);
        Due.due("31: the shorter one bounds", x.copy(0, 0, 1, 0, 3), Due.BEYOND);
        Due.due("31: the shorter one bounds", x.copy(1, 0, 0, 0, 3), Due.BEYOND);
        Due.due("31: as many as it has", x.copy(0, 1, 1, 0, 2), 2);
        Due.due("31: those", x.write(1, 0, 0) * 100 + x.write(1, 1, 0), 1112);
        WindowChairs y = new WindowChairs();
        y.sheet(0, 64, 0);
        y.sheet(1, 64, 40);
        Due.due("31: none of none", y.copy(0, 0, 1, 40, 0), 0);
        Due.due("31: one of none", y.copy(0, 0, 1, 0, 1), Due.BEYOND);
        Due.due("31: all 40 to itself", y.copy(1, 0, 1, 0, 40), 40);
        Due.due("31: 41", y.copy(1, 0, 1, 0, 41), Due.BEYOND);
    }

    private static void copyAsTheyAllWere() {
        for (int bits : BITS) {
            WindowChairs x = new WindowChairs();
            x.sheet(0, bits, 40);
            for (int i = 0; i < 40; i++) {
                x.write(0, i, i + 1);
            }
            Due.due("31: up by one", x.copy(0, 0, 0, 1, 39), 39);
            for (int i = 0; i < 40; i++) {
                Due.due("31: up by one, " + i, x.write(0, i, i + 1), i == 0 ? 1 : i);
            }
            Due.due("31: down by one", x.copy(0, 1, 0, 0, 39), 39);
            for (int i = 0; i < 40; i++) {
                Due.due("31: down by one, " + i, x.write(0, i, 0), i == 39 ? 40 : i + 2);
            }
        }
        Edge.asked("31: onto itself", EdgeSheetsTest::three, x -> x.copy(2, 0, 2, 0, 3), 3);
        Edge.asked("31: none", EdgeSheetsTest::three, x -> x.copy(2, 3, 1, 3, 0), 0);
    }

    private static void copyFindingsInOrder() {
        Edge.refused("31: sheet ahead of MISSING", Edge::some, x -> x.copy(4, 0, 3, 0, 0), Due.BEYOND);
        Edge.refused("31: sheet ahead of MISSING", Edge::some, x -> x.copy(3, 0, -1, 0, 0), Due.BEYOND);
        Edge.refused("31: MISSING ahead of BEYOND", Edge::some, x -> x.copy(3, -1, 0, -1, -1), Due.MISSING);
        Edge.refused("31: MISSING ahead of BEYOND", Edge::some, x -> x.copy(0, 99, 3, 99, 99), Due.MISSING);
        Edge.refused("31: KIND ahead of BEYOND", Edge::some, x -> x.copy(0, -1, 1, 0, 0), Due.KIND);
        Edge.refused("31: KIND ahead of BEYOND", Edge::some, x -> x.copy(2, 0, 1, 0, 41), Due.KIND);
        Edge.refused("31: BEYOND at last", Edge::some, x -> x.copy(0, 0, 0, 0, 4), Due.BEYOND);
    }

    private static void laysFindings() {
        Edge.range("32: sheet", EdgeSheetsTest::three, (x, s) -> x.lays(s), Edge.end(0, 3), Edge.end(3, 3));
        Edge.refused("32: missing", Edge::some, x -> x.lays(3), Due.MISSING);
        Edge.beyond("32: sheet, all missing", WindowChairs::new, (x, s) -> x.lays(s), -1, 4);
    }

    private static void laysZeroToTwenty() {
        long[] given = {-1, 0, 20, 21, Long.MIN_VALUE, Long.MAX_VALUE, (1L << 32) + 5, 7};
        int[] views = {15, 0, 20, 3, 3, 3, 3, 7};
        WindowChairs x = new WindowChairs();
        x.sheet(1, 64, 8);
        for (int i = 0; i < 8; i++) {
            x.write(1, i, given[i]);
        }
        Due.due("32: three came", x.lays(1), 3);
        for (int c = 0; c < 8; c++) {
            Due.due("32: view of " + c, x.chairOf(c, 0), views[c]);
            Due.due("32: draught of " + c, x.chairOf(c, 1), 1);
        }
        int[] ends = {-128, -1, 21, 127};
        for (int v : ends) {
            WindowChairs y = new WindowChairs();
            y.sheet(0, 8, 1);
            y.write(0, 0, v);
            Due.due("32: " + v + " is left out", y.lays(0) * 100 + y.chairOf(0, 0), 15);
        }
        Edge.asked("32: none come", () -> {
            WindowChairs y = Edge.some();
            y.write(0, 0, 21);
            y.write(0, 2, -1);
            return y;
        }, y -> y.lays(0), 0);
    }

    private static void laysStandForNone() {
        int[] sizes = {0, 1, 7, 8, 9, 40};
        for (int n : sizes) {
            WindowChairs x = new WindowChairs();
            x.sheet(2, 16, n);
            for (int i = 0; i < n; i++) {
                x.write(2, i, 10);
            }
            Due.due("32: of " + n, x.lays(2), Math.min(n, 8));
            for (int c = 0; c < 8; c++) {
                Due.due("32: of " + n + ", view of " + c, x.chairOf(c, 0), c < n ? 10 : c == 0 ? 15 : 3);
            }
        }
    }

    private static void bookFindings() {
        Edge.range("33: sheet", EdgeSheetsTest::threeAndOne, (x, s) -> x.book(s, 0), Edge.end(0, 3), Edge.end(3, 3));
        Edge.range("33: person", Edge::some, (x, p) -> x.book(0, p), Edge.end(0, 3), Edge.end(3, 3));
        Edge.range("33: person of eight", Edge::full, (x, p) -> x.book(0, p), Edge.end(0, 40), Edge.end(7, 40));
        Edge.beyond("33: nobody there", EdgeSheetsTest::three, (x, p) -> x.book(0, p), -1, 0);
        Edge.refused("33: no such sheet, no such one", Edge::some, x -> x.book(4, 4), Due.BEYOND);
        Edge.refused("33: missing", Edge::some, x -> x.book(3, 0), Due.MISSING);
        Edge.refused("33: MISSING ahead of the person", Edge::some, x -> x.book(3, 4), Due.MISSING);
        Edge.refused("33: MISSING ahead of the person", WindowChairs::new, x -> x.book(0, 0), Due.MISSING);
    }

    private static WindowChairs threeAndOne() {
        WindowChairs x = three();
        x.person(3);
        return x;
    }

    private static void bookAsManyAsItHas() {
        int[] sizes = {0, 1, 2, 40};
        for (int bits : BITS) {
            for (int n : sizes) {
                WindowChairs x = Edge.some();
                x.sheet(2, bits, n);
                String was = Due.look(x);
                Due.due("33: of " + n, x.book(2, 1), n);
                Due.due("33: nothing else changes", Due.look(x), was);
                for (int i = 0; i < n; i++) {
                    Due.due("33: on " + i, x.write(2, i, 0), x.on(1, i, 0));
                }
            }
            WindowChairs y = Edge.some();
            y.sheet(2, bits, 1);
            y.book(2, 1);
            Due.due("33: -1, it stands, of " + bits + " bits", y.write(2, 0, 0), -1);
            Due.due("33: other sheets stay", y.write(0, 0, 0) * 100 + y.write(1, 0, 0), 1112);
        }
    }

    private static void readFindings() {
        Edge.range("34: sheet", EdgeSheetsTest::threeAndOne, (x, s) -> x.read(s, 0), Edge.end(0, 0), Edge.end(3, 0));
        Edge.range("34: person", Edge::some, (x, p) -> x.read(0, p), Edge.end(0, 0), Edge.end(3, 0));
        Edge.beyond("34: nobody there", EdgeSheetsTest::three, (x, p) -> x.read(0, p), -1, 0);
        Edge.refused("34: no such sheet, no such one", Edge::some, x -> x.read(-1, 4), Due.BEYOND);
        Edge.refused("34: missing", Edge::some, x -> x.read(3, 0), Due.MISSING);
        Edge.refused("34: MISSING ahead of the person", Edge::some, x -> x.read(3, 4), Due.MISSING);
        Edge.refused("34: MISSING ahead of the person", WindowChairs::new, x -> x.read(0, 0), Due.MISSING);
    }

    private static void readNoNumbers() {
        for (int bits : BITS) {
            Edge.asked("34: no numbers, all pairs", () -> {
                WindowChairs x = Edge.some();
                x.sheet(1, bits, 0);
                return x;
            }, x -> x.read(1, 2), 54);
        }
    }

    private static void readStands() {
        long[] first = {-2, -1, 0, 7, 8, 255, 65535, 0xFFFFFFFFL, Long.MIN_VALUE, Long.MAX_VALUE};
        for (long v : first) {
            WindowChairs x = Due.with(0, 0);
            x.sit(1, 7);
            x.sheet(0, 64, 1);
            x.write(0, 0, v);
            Due.due("34: it stands, " + v, x.read(0, 0), v == -1 ? 54 : 0);
            Due.due("34: it sits in 7, " + v, x.read(0, 1), v == 7 ? 54 : 0);
        }
        WindowChairs y = Due.with(0);
        y.sheet(0, 8, 1);
        y.write(0, 0, 255);
        Due.due("34: 255 of 8 bits is -1", y.read(0, 0), 54);
        y.sheet(0, 16, 1);
        y.write(0, 0, 255);
        Due.due("34: 255 of 16 bits is not", y.read(0, 0), 0);
    }

    /** What one of each KIND with each CLAIM does is booked, and read again: as many pairs as do the same. */
    private static void readEveryPair() {
        int[] sizes = {1, 2, 3, 12, 40};
        for (int n : sizes) {
            int[] all = new int[54];
            String[] ways = new String[54];
            for (int pair = 0; pair < 54; pair++) {
                WindowChairs x = pairs(pair);
                StringBuilder way = new StringBuilder();
                for (int i = 0; i < n; i++) {
                    way.append(x.on(0, i, 0)).append(' ');
                }
                ways[pair] = way.toString();
                x.sheet(0, 8, n);
                x.book(0, 0);
                all[pair] = x.read(0, 0);
            }
            for (int pair = 0; pair < 54; pair++) {
                int same = 0;
                for (String way : ways) {
                    same += way.equals(ways[pair]) ? 1 : 0;
                }
                Due.due("34: kind and claim " + pair + ", " + n + " numbers", all[pair], same);
            }
        }
    }

    private static WindowChairs pairs(int pair) {
        WindowChairs x = Due.with(pair / 9, 0, 3, 2);
        x.set(0, 1, 80);
        x.set(0, 2, pair % 9 - 1);
        x.sit(0, 4);
        x.sit(1, 0);
        x.sit(2, 7);
        x.sit(3, 2);
        x.chair(4, 0, 12);
        x.chair(7, 0, 9);
        x.quarrel(0, 3, 1);
        return x;
    }
}
