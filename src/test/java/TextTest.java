/** Promises 26 to 28. */
final class TextTest {
    public static void main(String[] args) {
        feed();
        wipe();
        people();
        chairs();
        pairs();
        blanks();
        faults();
        ninth();
        leavesNoTrace();
        longNumbers();
        everyByte();
        Due.end();
    }

    private static void feed() {
        WindowChairs x = new WindowChairs();
        Due.due("26: three of four", x.feed(0x7A6F6C64, 3), 3);
        Due.due("26: highest first", x.room(), 1);
        Due.due("26: one", x.of(0, 0), 1);
        Due.due("26: four", x.feed(0x64656166, 4), 4);
        Due.due("26: two", x.feed(0x203B, 2), 6);
        Due.due("26: one", x.feed(0x41416F, 1), 7);
        Due.due("26: two", x.feed(0x6C64, 2), 9);
        Due.due("26: deaf ;old", x.room(), 2);
        Due.due("26: deaf, old", x.of(1, 0) * 10 + x.of(2, 0), 31);
        Due.due("26: a byte above 127", x.feed(-1, 1), 1);
        Due.due("26: begins no token", x.room(), -1);
        Due.due("26: beyond", x.feed(1, 0), Due.BEYOND);
        Due.due("26: beyond", x.feed(1, -1), Due.BEYOND);
        Due.due("26: beyond", x.feed(1, 5), Due.BEYOND);
        for (int far : Due.FAR) {
            Due.due("26: beyond", x.feed(1, far), Due.BEYOND);
        }
        Due.due("26: changes nothing", x.count(1), 0);
        for (int n = 4; n < 118; n += 4) {
            x.feed(0x20202020, 4);
        }
        Due.due("26: 118", x.feed(0x2020, 2), 118);
        Due.due("26: full", x.feed(0, 3), Due.FULL);
        Due.due("26: full", x.feed(0, 4), Due.FULL);
        Due.due("26: beyond first", x.feed(0, 5), Due.BEYOND);
        Due.due("26: changes nothing", x.count(1), 118);
        Due.due("26: the last two", x.feed(0x2020, 2), 120);
        Due.due("26: full", x.feed(0, 1), Due.FULL);
        Due.due("26: ends too early at 120", x.room(), -121);
        Due.due("26: empty then", x.feed(0, 1), 1);
    }

    private static void wipe() {
        WindowChairs x = new WindowChairs();
        Due.due("27: nothing", x.wipe(), 0);
        Due.tape(x, "guest;");
        Due.due("27: six", x.wipe(), 6);
        Due.due("27: empty", x.count(1), 0);
        Due.due("27: empty", x.wipe(), 0);
        Due.due("27: anew", Due.told(x, "queen"), 1);
        Due.due("27: anew", x.of(0, 0), 4);
    }

    private static void people() {
        String[] names = {"guest", "old", "talker", "deaf", "queen", "sleeper"};
        for (int k = 0; k < 6; k++) {
            WindowChairs x = new WindowChairs();
            Due.due("28: " + names[k], Due.told(x, names[k]), 1);
            Due.due("28: kind", x.of(0, 0), k);
            Due.due("28: years, claim, chair", x.of(0, 1) * 100 + x.of(0, 2) * 10 + x.of(0, 5), -11);
            Due.due("28: empty then", x.count(1), 0);
            Due.due("28: one more", Due.told(x, names[k] + " years 99 claims 7 in 6"), 1);
            Due.due("28: kind", x.of(1, 0), k);
            Due.due("28: years", x.of(1, 1), 99);
            Due.due("28: claim", x.of(1, 2), 7);
            Due.due("28: chair", x.of(1, 5), 6);
            Due.due("28: who sits", x.chairOf(6, 2), 1);
        }
        WindowChairs x = new WindowChairs();
        Due.due("28: some", Due.told(x, "old claims 0;old in 0;old years 5 in 7;old claims 2 in 3;queen years 0"), 5);
        Due.due("28: sit", x.now(3), 14);
        Due.due("28: claims", x.of(0, 2) * 10 + x.of(3, 2), 2);
        Due.due("28: years", x.of(2, 1), 5);
    }

    private static void chairs() {
        WindowChairs x = new WindowChairs();
        Due.due("28: chair alone", Due.told(x, "chair 3"), 1);
        Due.due("28: as it was", x.chairOf(3, 0) * 10 + x.chairOf(3, 1), 31);
        Due.due("28: view", Due.told(x, "chair 7 view 20"), 1);
        Due.due("28: view", x.chairOf(7, 0) * 10 + x.chairOf(7, 1), 201);
        Due.due("28: draught", Due.told(x, "chair 0 draught 9;chair 1 view 0 draught 0"), 2);
        Due.due("28: draught", x.chairOf(0, 0) * 10 + x.chairOf(0, 1), 159);
        Due.due("28: both", x.chairOf(1, 0) * 10 + x.chairOf(1, 1), 0);
        Due.due("28: the later one", Due.told(x, "chair 2 view 5;chair 2 view 6"), 2);
        Due.due("28: the later one", x.chairOf(2, 0), 6);
    }

    private static void pairs() {
        WindowChairs x = new WindowChairs();
        Due.due("28: there by then", Due.told(x, "guest;guest;quarrel 0 1;guest;quarrel 2 1"), 5);
        Due.due("28: quarrels", x.of(1, 3), 5);
        Due.due("28: peace", Due.told(x, "peace 1 2"), 1);
        Due.due("28: peace", x.of(1, 3) * 10 + x.of(2, 3), 10);
        Due.due("28: none to make up", Due.told(x, "peace 1 2;quarrel 1 0"), 2);
        Due.due("28: once", x.count(3), 1);
    }

    private static void blanks() {
        WindowChairs x = new WindowChairs();
        Due.due("28: many", Due.told(x, "  old   years  7  ;  chair  1  "), 2);
        Due.due("28: none", Due.told(x, "old years7claims3in2;chair1view2draught3;quarrel0 1"), 3);
        Due.due("28: years", x.of(1, 1), 7);
        Due.due("28: chair", x.of(1, 5), 2);
        Due.due("28: view", x.chairOf(1, 0) * 10 + x.chairOf(1, 1), 23);
        Due.due("28: one number, not two", Due.told(x, "peace 01"), -9);
        Due.due("28: one word, not two", Due.told(x, "oldyears 7"), -1);
        Due.due("28: a tab is none", Due.told(x, "old\tyears 7"), -4);
        Due.due("28: a new line is none", Due.told(x, "old\n"), -4);
    }

    private static void fault(String text, int place) {
        WindowChairs x = Due.with(0, 0);
        x.sit(0, 4);
        String was = Due.look(x);
        Due.due("28: fault in '" + text + "'", Due.told(x, text), -1 - place);
        Due.due("28: changes nothing '" + text + "'", Due.look(x), was);
        Due.due("28: tape is empty", x.count(1), 0);
        Due.due("28: no finding", x.status(-1), 0);
    }

    private static void faults() {
        fault("", 0);
        fault("   ", 3);
        fault(";", 0);
        fault("7", 0);
        fault("guests", 0);
        fault("gues", 0);
        fault("Guest", 0);
        fault("buest", 0);
        fault("guess", 0);
        fault("bold", 0);
        fault("years 3", 0);
        fault("guest;", 6);
        fault("guest ; ", 8);
        fault("guest;;guest", 6);
        fault("guest guest", 6);
        fault("guest 4", 6);
        fault("guest years", 11);
        fault("guest years ", 12);
        fault("guest years in 3", 12);
        fault("guest years 100", 12);
        fault("guest years -1", 12);
        fault("guest years 5 years 5", 14);
        fault("guest claims 8", 13);
        fault("guest claims", 12);
        fault("guest claims 1 years 5", 15);
        fault("guest in 4", 9);
        fault("guest in 8", 9);
        fault("guest in", 8);
        fault("guest in 3;guest in 3", 20);
        fault("guest in 3 claims 3", 11);
        fault("guest in 3 3", 11);
        fault("chair", 5);
        fault("chair view 3", 6);
        fault("chair 8", 6);
        fault("chair 1 view", 12);
        fault("chair 1 view 21", 13);
        fault("chair 1 draught 10", 16);
        fault("chair 1 draught", 15);
        fault("chair 1 draught 1 view 1", 18);
        fault("chair 1 view 1 view 1", 15);
        fault("quarrel", 7);
        fault("quarrel 0", 9);
        fault("quarrel 0 0", 10);
        fault("quarrel 1 1", 10);
        fault("quarrel 2 0", 8);
        fault("quarrel 0 2", 10);
        fault("quarrel 0 1 1", 12);
        fault("quarrel 0;guest", 9);
        fault("peace", 5);
        fault("peace x", 6);
        fault("peace 1 2;guest", 8);
        fault("guest;peace 3 1", 12);
        fault("guest #", 6);
        fault("guest years #", 12);
        fault("guest.", 5);
        fault("quarrel 0 1,", 11);
        WindowChairs nobody = new WindowChairs();
        Due.due("28: nobody there", Due.told(nobody, "quarrel 0 1"), -9);
        Due.due("28: one there", Due.told(nobody, "guest;quarrel 0 1"), -17);
    }

    private static void ninth() {
        WindowChairs x = new WindowChairs();
        Due.due("28: eight", Due.told(x, "old;old;old;old;old;old;old;old"), 8);
        Due.due("28: a ninth", Due.told(x, "chair 1;old"), -9);
        Due.due("28: a ninth, its own place", Due.told(x, "old years 100"), -1);
        WindowChairs y = new WindowChairs();
        Due.due("28: a ninth", Due.told(y, "old;old;old;old;old;old;old;old;old"), -33);
        Due.due("28: nobody came", y.count(0), 0);
        Due.due("28: no finding", y.status(-1), 0);
    }

    private static void leavesNoTrace() {
        WindowChairs x = Due.with(0, 0);
        x.hours(3);
        String was = Due.look(x);
        Due.due("28: fault at the end", Due.told(x, "queen years 3 in 5;chair 2 view 9;quarrel 0 2;peace 9 9"), -53);
        Due.due("28: no trace", Due.look(x), was);
        Due.due("28: without it", Due.told(x, "queen years 3 in 5;chair 2 view 9;quarrel 0 2"), 3);
        Due.due("28: hour stays", x.now(0), 3);
        Due.due("28: came", x.count(0) * 100 + x.count(2) * 10 + x.count(3), 331);
        x.person(0);
        Due.due("28: a new one is as new ones are", x.of(3, 1) + x.of(3, 2) + x.of(3, 3) + x.of(3, 5), -2);
    }

    private static void longNumbers() {
        WindowChairs x = new WindowChairs();
        Due.due("28: zeros before it", Due.told(x, "old years 0000000000000042"), 1);
        Due.due("28: 42", x.of(0, 1), 42);
        Due.due("28: 1000", Due.told(x, "chair 1000"), -7);
        Due.due("28: past 32 bits", Due.told(x, "chair 4294967296"), -7);
        Due.due("28: past 64 bits", Due.told(x, "old years 18446744073709551620"), -11);
        Due.due("28: 00 is 0", Due.told(x, "chair 00 view 007"), 1);
        Due.due("28: view", x.chairOf(0, 0), 7);
    }

    private static void everyByte() {
        for (int b = 0; b < 256; b++) {
            WindowChairs x = new WindowChairs();
            Due.tape(x, "old");
            x.feed(b, 1);
            boolean letter = b >= 'a' && b <= 'z';
            int want = b == ' ' ? 1 : letter ? -1 : b == ';' ? -5 : -4;
            Due.due("28: old and byte " + b, x.room(), want);
        }
    }
}
