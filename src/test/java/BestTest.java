/** Promises 19 to 25. */
final class BestTest {
    public static void main(String[] args) {
        best();
        bestOfSix();
        bestFromAnywhere();
        mend();
        mendOn();
        kind();
        claim();
        years();
        always();
        beside();
        besideEdges();
        Due.end();
    }

    private static void best() {
        WindowChairs x = Due.with(3, 0, 0);
        x.sit(0, 0);
        x.sit(1, 7);
        Due.due("19: as it is", x.now(4), 10007);
        String was = Due.look(x);
        Due.due("19: changed", x.best(), 10013);
        Due.due("19: changes nothing", Due.look(x), was);
        WindowChairs y = Due.with(0, 0, 0, 2);
        y.sit(0, 3);
        y.sit(1, 4);
        y.sit(2, 5);
        y.quarrel(0, 1, 1);
        Due.due("19: as it is", y.now(4), 10000 + 6 - 12 + 2);
        Due.due("19: the third between", y.best(), 10010);
        y.quarrel(0, 2, 1);
        y.quarrel(1, 2, 1);
        Due.due("19: no better way", y.best(), 10000 + 6 - 24);
        WindowChairs z = Due.with(5, 2);
        z.sit(0, 6);
        z.sit(1, 7);
        Due.due("19: sleeper by the trolley", z.best(), 10011);
        WindowChairs s = Due.with(3, 0);
        s.hours(10);
        s.sit(1, -1);
        s.sit(0, 0);
        s.sit(1, 7);
        Due.due("19: in the sun", s.best(), 10009);
        Due.due("19: nobody", new WindowChairs().best(), 10000);
        WindowChairs one = Due.with(0);
        Due.due("19: one stands", one.best(), 10000);
        one.sit(0, 4);
        Due.due("19: one sits", one.best(), 10002);
    }

    private static void bestOfSix() {
        WindowChairs x = Due.with(0, 0, 0, 0, 0, 0, 0, 0);
        for (int p = 0; p < 6; p++) {
            x.sit(p + 1, p);
        }
        Due.due("19: six", x.best(), 10034);
        // 1 and 2 quarrel with all but 3: best at the ends, with 3 beside one of them.
        for (int p = 4; p < 7; p++) {
            x.quarrel(1, p, 1);
            x.quarrel(2, p, 1);
        }
        x.quarrel(1, 2, 1);
        Due.due("19: one quarrel beside is left", x.best(), 10000 + 24 + 8 - 12);
        x.sit(7, 7);
        Due.due("19: seven", x.best(), Due.SIZE);
        x.sit(0, 6);
        Due.due("19: eight", x.best(), Due.SIZE);
        x.sit(7, -1);
        x.sit(1, -1);
        Due.due("19: six again", x.best() > 10000 ? 1 : 0, 1);
        Due.due("19: counted", x.status(6), 2);
    }

    /** 0 beside 2 beside 1 beside 3 is the one way without a quarrel, wherever each of them sits now. */
    private static void bestFromAnywhere() {
        for (int code = 0; code < 256; code++) {
            WindowChairs x = Due.with(0, 0, 0, 0);
            for (int p = 0; p < 4; p++) {
                x.sit(p, 3 + (code >> 2 * p & 3));
            }
            x.quarrel(0, 1, 1);
            x.quarrel(0, 3, 1);
            x.quarrel(2, 3, 1);
            if (x.count(2) == 4) {
                Due.due("19: from " + code, x.best(), 10014);
            }
        }
    }

    private static void mend() {
        WindowChairs x = Due.with(0, 0, 0, 3, 3);
        Due.due("20: no quarrel", x.mend(0), Due.NONE);
        for (int p = 0; p < 5; p++) {
            x.sit(p, p);
        }
        Due.due("20: no quarrel", x.mend(0), Due.NONE);
        x.quarrel(3, 4, 1);
        Due.due("20: the deaf don't mind", x.mend(0), Due.NONE);
        x.quarrel(0, 2, 1);
        Due.due("20: not beside", x.mend(0), Due.NONE);
        x.quarrel(1, 2, 1);
        Due.due("20: one and two", x.mend(0), 12);
        x.quarrel(0, 1, 1);
        Due.due("20: the least of several", x.mend(0), 1);
        x.turn(2, 2);
        Due.due("20: a talker minds twice", x.mend(0), 12);
        Due.due("20: changes nothing", x.count(3), 4);
        Due.due("20: beyond", x.mend(-1), Due.BEYOND);
        Due.due("20: beyond", x.mend(31), Due.BEYOND);
        for (int far : Due.FAR) {
            Due.due("20: beyond", x.mend(far), Due.BEYOND);
        }
    }

    private static void mendOn() {
        // Apart by hour 1 with or without: but made up, they come beside each other.
        WindowChairs x = Due.with(0, 0);
        x.quarrel(0, 1, 1);
        Due.due("20: both stand", x.mend(0), Due.NONE);
        Due.due("20: they come together", x.mend(1), 1);
        Due.due("20: at 30", x.mend(30), 1);
        WindowChairs y = Due.with(3, 3);
        y.quarrel(0, 1, 1);
        Due.due("20: no help", y.mend(30), Due.NONE);
        Due.due("20: nobody there", new WindowChairs().mend(30), Due.NONE);
    }

    private static void kind() {
        WindowChairs x = Due.with(0, 0, 0);
        Due.due("21: stands: the least", x.kind(0, 0), 0);
        Due.due("21: a talker in 0", x.kind(0, 1), 2);
        x.sit(0, 0);
        x.set(0, 2, 0);
        x.set(0, 1, 40);
        Due.due("21: a queen in her claim", x.kind(0, 0), 4);
        Due.due("21: a queen in her claim", x.kind(0, 30), 4);
        x.set(0, 2, -1);
        x.sit(0, 7);
        Due.due("21: talker as well as sleeper", x.kind(0, 0), 2);
        x.chair(7, 0, 4);
        x.chair(7, 1, 0);
        Due.due("21: a sleeper by the trolley", x.kind(0, 0), 5);
        x.sit(0, 3);
        x.sit(1, 2);
        x.sit(2, 4);
        x.quarrel(0, 1, 1);
        x.quarrel(0, 2, 1);
        x.chair(3, 0, 0);
        x.chair(3, 1, 9);
        Due.due("21: deaf, all below 0", x.kind(0, 0), 3);
        Due.due("21: changes nothing", x.of(0, 0), 0);
        x.turn(0, 5);
        Due.due("21: whatever it is now", x.kind(0, 0), 3);
        Due.due("21: beyond", x.kind(3, 0), Due.BEYOND);
        Due.due("21: beyond", x.kind(-1, 0), Due.BEYOND);
        Due.due("21: beyond", x.kind(0, -1), Due.BEYOND);
        Due.due("21: beyond", x.kind(0, 31), Due.BEYOND);
        for (int far : Due.FAR) {
            Due.due("21: beyond", x.kind(far, 0), Due.BEYOND);
            Due.due("21: beyond", x.kind(0, far), Due.BEYOND);
        }
    }

    private static void claim() {
        WindowChairs x = Due.with(4, 0);
        Due.due("22: stands: none", x.claim(0, 0), 0);
        Due.due("22: comes to 0", x.claim(0, 1), 1);
        x.sit(0, 5);
        Due.due("22: where she sits", x.claim(0, 0), 6);
        x.sit(1, 0);
        Due.due("22: still there", x.claim(0, 0), 6);
        Due.due("22: another's", x.claim(0, 1), 1);
        Due.due("22: another's", x.claim(0, 30), 1);
        x.set(0, 2, 3);
        Due.due("22: whatever it claims now", x.claim(0, 0), 6);
        Due.due("22: changes nothing", x.of(0, 2), 3);
        x.sit(1, 7);
        x.sit(0, 6);
        x.quarrel(0, 1, 1);
        x.chair(6, 0, 0);
        x.chair(6, 1, 9);
        Due.due("22: below 0", x.claim(0, 0), 7);
        Due.due("22: a guest: none as well as any", x.claim(1, 9), 0);
        Due.due("22: beyond", x.claim(2, 0), Due.BEYOND);
        Due.due("22: beyond", x.claim(-1, 0), Due.BEYOND);
        Due.due("22: beyond", x.claim(0, -1), Due.BEYOND);
        Due.due("22: beyond", x.claim(0, 31), Due.BEYOND);
        for (int far : Due.FAR) {
            Due.due("22: beyond", x.claim(far, 0), Due.BEYOND);
            Due.due("22: beyond", x.claim(0, far), Due.BEYOND);
        }
    }

    private static void years() {
        WindowChairs x = Due.with(1, 0);
        x.sit(1, 0);
        x.set(0, 2, 0);
        x.sit(0, 3);
        x.chair(3, 0, 5);
        Due.due("23: by fourths", x.years(0, 0, 1), 32);
        Due.due("23: still there", x.years(0, 0, 30), 32);
        Due.due("23: with none", x.years(0, 3, 1), 0);
        Due.due("23: never", x.years(0, 5, 30), Due.NONE);
        x.set(0, 1, 99);
        Due.due("23: whatever it has now", x.years(0, 0, 1), 32);
        Due.due("23: changes nothing", x.of(0, 1), 99);
        x.turn(1, 1);
        x.set(0, 1, 40);
        Due.due("23: by tenths", x.years(1, 0, 1), 30);
        // 14 and y / 4 against 14, 8 and 9: above 68 years.
        x.set(1, 1, 99);
        Due.due("23: late", x.years(0, 0, 1), 68);
        x.chair(1, 1, 9);
        x.turn(1, 4);
        Due.due("23: never", x.years(0, 0, 1), Due.NONE);
        int[][] wrong = {{-1, 0, 1}, {2, 0, 1}, {0, -1, 1}, {0, 8, 1}, {0, 0, 0}, {0, 0, -1}, {0, 0, 31}};
        for (int[] w : wrong) {
            Due.due("23: beyond", x.years(w[0], w[1], w[2]), Due.BEYOND);
        }
        for (int far : Due.FAR) {
            Due.due("23: beyond", x.years(far, 0, 1), Due.BEYOND);
            Due.due("23: beyond", x.years(0, far, 1), Due.BEYOND);
            Due.due("23: beyond", x.years(0, 0, far), Due.BEYOND);
        }
    }

    private static void always() {
        WindowChairs x = new WindowChairs();
        Due.due("24: nobody", x.always(0), Due.NONE);
        Due.due("24: nobody", x.always(60), Due.NONE);
        Due.due("24: beyond first", x.always(61), Due.BEYOND);
        Due.due("24: beyond first", x.always(-1), Due.BEYOND);
        x.person(0);
        x.person(5);
        x.chair(0, 0, 3);
        Due.due("24: the least", x.always(0), 0);
        Due.due("24: one hour on", x.always(1), 1);
        x.set(0, 4, 60);
        Due.due("24: as many", x.always(60), 0);
        x.set(0, 4, 59);
        Due.due("24: one more", x.always(60), 1);
        Due.due("24: not yet", x.always(59), 0);
        Due.due("24: changes nothing", x.of(1, 4), 0);
        x.set(0, 4, 9999);
        x.set(1, 4, 9998);
        Due.due("24: held", x.always(60), 0);
        Due.due("24: of eight", Due.with(0, 0, 0, 0, 0, 0, 0, 5).always(60), 7);
        for (int far : Due.FAR) {
            Due.due("24: beyond", x.always(far), Due.BEYOND);
        }
    }

    private static void beside() {
        WindowChairs x = Due.with(0, 0, 0, 0);
        Due.due("25: all stand", x.beside(0), Due.NONE);
        x.sit(0, 3);
        Due.due("25: nobody else sits", x.beside(0), Due.NONE);
        x.sit(0, -1);
        x.sit(1, 0);
        x.sit(2, 4);
        Due.due("25: the least of several", x.beside(0), 1);
        x.chair(5, 0, 4);
        Due.due("25: behind him", x.beside(0), 2);
        x.chair(5, 0, 3);
        x.chair(3, 0, 4);
        Due.due("25: before him", x.beside(0), 2);
        x.sit(3, 3);
        x.chair(3, 0, 20);
        Due.due("25: taken", x.beside(0), 1);
        x.quarrel(0, 1, 1);
        Due.due("25: not the one it quarrels with", x.beside(0), 2);
        String was = Due.look(x);
        x.beside(0);
        Due.due("25: changes nothing", Due.look(x), was);
    }

    private static void besideEdges() {
        WindowChairs x = Due.with(4, 0, 0);
        x.sit(0, 1);
        x.sit(1, 0);
        x.sit(2, 5);
        x.chair(1, 0, 10);
        Due.due("25: its own is empty", x.beside(0), 1);
        x.sit(1, 2);
        Due.due("25: its own is empty", x.beside(0), 1);
        x.quarrel(0, 2, 1);
        x.sit(1, -1);
        Due.due("25: below 0, but he alone sits", x.beside(0), 2);
        x.sit(2, 7);
        Due.due("25: at the end", x.beside(0), 2);
        x.sit(2, 0);
        Due.due("25: at the end", x.beside(0), 2);
        Due.due("25: himself not", x.beside(2), 0);
        WindowChairs full = Due.with(0, 0, 0, 0, 0, 0, 0, 0);
        full.hours(1);
        Due.due("25: eight sit", full.beside(7), 6);
        Due.due("25: beyond", x.beside(3), Due.BEYOND);
        Due.due("25: beyond", x.beside(-1), Due.BEYOND);
        for (int far : Due.FAR) {
            Due.due("25: beyond", x.beside(far), Due.BEYOND);
        }
    }
}
