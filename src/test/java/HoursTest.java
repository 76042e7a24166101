/** Promises 13 to 18. */
final class HoursTest {
    public static void main(String[] args) {
        movesToEmpty();
        takesClaim();
        fullRow();
        givesUpExactly();
        trolley();
        hoursBeyond();
        now();
        on();
        peace();
        settles();
        gets();
        sixtyOn();
        Due.end();
    }

    private static void movesToEmpty() {
        WindowChairs x = Due.with(0, 0, 3);
        Due.due("13: all three", x.hours(1), 3);
        // The least of several; the second beside the first; the deaf one minds nothing.
        Due.due("13: chairs", x.of(0, 5) * 100 + x.of(1, 5) * 10 + x.of(2, 5), 12);
        Due.due("13: nobody", x.hours(1), 0);
        x.chair(5, 0, 4);
        Due.due("13: better by one", x.hours(1), 1);
        // The guest in 0 stays, for 0 is best; the second guest gains 1 by view, loses 2 neighbours; the deaf one gains 1.
        Due.due("13: who moved", x.of(2, 5), 5);
        Due.due("13: the last hour's", x.hours(3), 0);
        Due.due("13: hour", x.now(0), 6);
        WindowChairs y = Due.with(0, 0);
        y.sit(0, 4);
        y.sit(1, 0);
        Due.due("13: beside the other", y.hours(1), 1);
        Due.due("13: nearer", y.of(0, 5), 1);
        y.chair(1, 1, 2);
        Due.due("13: as good is not better", y.hours(1), 0);
    }

    private static void takesClaim() {
        WindowChairs x = Due.with(0, 4);
        x.sit(0, 0);
        x.set(1, 2, 0);
        x.sit(1, 6);
        // Queen in 0: 14 and 10; the guest: 14, gives up 8.
        Due.due("13: one moved, the other is moved", x.hours(1), 1);
        Due.due("13: changed", x.of(0, 5) * 10 + x.of(1, 5), 60);
        WindowChairs y = Due.with(0, 4);
        y.sit(0, 0);
        y.set(1, 2, 0);
        y.sit(1, 6);
        y.chair(4, 0, 5);
        Due.due("13: an empty one first", y.hours(1), 1);
        Due.due("13: its claim can wait", y.of(1, 5), 4);
        Due.due("13: next hour", y.hours(1), 1);
        Due.due("13: next hour", y.of(1, 5), 0);
    }

    private static void fullRow() {
        // All chairs taken: a queen in 1 would SIT 17 in her claim; the guest there SITS 8 and gives up 8.
        WindowChairs x = Due.with(4, 0, 0, 0, 0, 0, 0, 0);
        x.sit(1, 0);
        x.sit(0, 1);
        for (int p = 2; p < 8; p++) {
            x.sit(p, p);
        }
        x.chair(0, 0, 7);
        x.chair(0, 1, 0);
        x.chair(1, 0, 20);
        x.chair(1, 1, 0);
        Due.due("13: no claim, no move", x.hours(1), 0);
        x.set(0, 2, 0);
        // It's asked only how well each of them would sit in the claim: where she sits is better, at 18.
        Due.due("13: changed", x.hours(1), 1);
        Due.due("13: changed", x.of(0, 5) * 10 + x.of(1, 5), 1);
        Due.due("13: chairs", x.chairOf(0, 2) * 10 + x.chairOf(1, 2), 1);
        Due.due("13: her own claim", x.hours(1), 0);
        // A second queen gives up 99.
        x.turn(0, 1);
        x.turn(1, 4);
        x.set(1, 2, 0);
        Due.due("13: an old one gives up 8", x.hours(1), 1);
        x.turn(0, 4);
        Due.due("13: a queen gives up 99", x.hours(1), 0);
    }

    private static void givesUpExactly() {
        // An old one of 32 years likes its claim 8 more; a guest gives up 8.
        WindowChairs x = Due.with(1, 0);
        x.sit(1, 0);
        x.sit(0, 7);
        x.set(0, 2, 0);
        x.set(0, 1, 31);
        x.sit(0, 3);
        x.chair(3, 0, 5);
        Due.due("13: one too few", x.hours(1), 0);
        x.set(0, 1, 32);
        Due.due("13: by as much", x.hours(1), 1);
        Due.due("13: there", x.of(0, 5), 0);
        // The guest is beside neither: all empty chairs are worse, but for 3.
        Due.due("13: there", x.of(1, 5), 3);
    }

    private static void trolley() {
        WindowChairs x = Due.with(5, 0);
        x.chair(0, 0, 3);
        Due.due("13: sleeper", x.hours(1), 2);
        Due.due("13: by the trolley", x.of(0, 5), 7);
        Due.due("13: gap", x.of(0, 4), 1);
        x.hours(60);
        Due.due("13: gap", x.of(0, 4), 61);
        Due.due("13: no gap", x.of(1, 4), 0);
        x.set(0, 4, 9998);
        x.hours(1);
        Due.due("13: gap", x.of(0, 4), 9999);
        x.hours(1);
        Due.due("13: gap held", x.of(0, 4), 9999);
    }

    private static void hoursBeyond() {
        WindowChairs x = Due.with(0);
        Due.due("13: beyond", x.hours(0), Due.BEYOND);
        Due.due("13: beyond", x.hours(-1), Due.BEYOND);
        Due.due("13: beyond", x.hours(61), Due.BEYOND);
        for (int far : Due.FAR) {
            Due.due("13: beyond", x.hours(far), Due.BEYOND);
        }
        Due.due("13: nothing went", x.now(0), 0);
        // The limit of HOUR lies beyond 512 calls; past it the answer is STATE.
        for (int i = 0; i < 1666; i++) {
            x.hours(60);
        }
        Due.due("13: hour", x.now(0), 99960);
        Due.due("13: state", x.hours(40), Due.STATE);
        Due.due("13: changes nothing", x.now(0), 99960);
        Due.due("13: to the last", x.hours(39), 0);
        Due.due("13: state", x.hours(1), Due.STATE);
        Due.due("13: beyond first", x.hours(0), Due.BEYOND);
    }

    private static void now() {
        WindowChairs x = Due.with(0, 3, 0);
        x.sit(0, 0);
        x.sit(2, 1);
        Due.due("14: those that sit", x.now(3), 5);
        Due.due("14: empty", x.now(5), 252);
        Due.due("14: peace", x.now(4), 10000 + 15 + 3);
        for (int h = 1; h < 50; h++) {
            x.hours(1);
            Due.due("14: hour", x.now(0), h);
            Due.due("14: of the day", x.now(1), h % 24);
            Due.due("14: sun", x.now(2), h % 24 >= 10 && h % 24 <= 14 ? 1 : 0);
        }
        WindowChairs y = Due.with(0);
        y.chair(0, 0, 0);
        y.chair(0, 1, 9);
        y.sit(0, 0);
        Due.due("14: below", y.now(4), 9991);
        Due.due("14: nobody", new WindowChairs().now(4), 10000);
        Due.due("14: all empty", new WindowChairs().now(5), 255);
        Due.due("14: beyond", y.now(-1), Due.BEYOND);
        Due.due("14: beyond", y.now(6), Due.BEYOND);
        for (int far : Due.FAR) {
            Due.due("14: beyond", y.now(far), Due.BEYOND);
        }
    }

    private static void on() {
        WindowChairs x = Due.with(5, 0);
        x.chair(0, 0, 3);
        x.sit(0, 2);
        String was = Due.look(x);
        Due.due("15: as it is", x.on(0, 0, 0), 2);
        Due.due("15: stands", x.on(1, 0, 0), -1);
        Due.due("15: gap", x.on(0, 0, 1), 0);
        Due.due("15: one on", x.on(0, 1, 0), 7);
        Due.due("15: gap", x.on(0, 1, 1), 1);
        Due.due("15: gap", x.on(0, 60, 1), 60);
        Due.due("15: the other", x.on(1, 60, 0), 6);
        Due.due("15: changes nothing", Due.look(x), was);
        x.set(0, 4, 9990);
        Due.due("15: held", x.on(0, 60, 1), 9999);
        int[][] wrong = {{-1, 0, 0}, {2, 0, 0}, {0, -1, 0}, {0, 61, 0}, {0, 0, -1}, {0, 0, 2}};
        for (int[] w : wrong) {
            Due.due("15: beyond", x.on(w[0], w[1], w[2]), Due.BEYOND);
        }
        for (int far : Due.FAR) {
            Due.due("15: beyond", x.on(far, 0, 0), Due.BEYOND);
            Due.due("15: beyond", x.on(0, far, 0), Due.BEYOND);
            Due.due("15: beyond", x.on(0, 0, far), Due.BEYOND);
        }
    }

    private static void peace() {
        WindowChairs x = Due.with(0, 0);
        Due.due("16: all stand", x.peace(0), 10000);
        Due.due("16: 15 and 3", x.peace(1), 10018);
        Due.due("16: before sun", x.peace(9), 10018);
        Due.due("16: in the sun", x.peace(10), 10014);
        Due.due("16: in the sun", x.peace(14), 10014);
        Due.due("16: after it", x.peace(15), 10018);
        Due.due("16: next day", x.peace(34), 10014);
        Due.due("16: 60", x.peace(60), 10014);
        Due.due("16: changes nothing", x.now(0) + x.now(3), 0);
        Due.due("16: beyond", x.peace(-1), Due.BEYOND);
        Due.due("16: beyond", x.peace(61), Due.BEYOND);
        for (int far : Due.FAR) {
            Due.due("16: beyond", x.peace(far), Due.BEYOND);
        }
    }

    private static void settles() {
        WindowChairs x = Due.with(0, 0, 0);
        Due.due("17: one on", x.settles(), 1);
        x.hours(1);
        Due.due("17: at once", x.settles(), 0);
        WindowChairs y = Due.with(0, 4);
        y.sit(0, 0);
        y.set(1, 2, 0);
        Due.due("17: an empty one, the claim, beside her", y.settles(), 3);
        Due.due("17: changes nothing", y.of(1, 5), -1);
        WindowChairs s = Due.with(0);
        s.chair(0, 0, 11);
        s.chair(1, 0, 8);
        s.hours(9);
        Due.due("17: settled before the sun", s.settles(), 0);
        s.hours(1);
        Due.due("17: the sun moves it first", s.settles(), 1);
        WindowChairs f = chase();
        Due.due("17: none", f.settles(), Due.NONE);
        Due.due("17: counted", f.status(3), 1);
    }

    /** A guest who'd sit beside a queen, who'd not: they move every hour. */
    private static WindowChairs chase() {
        WindowChairs x = Due.with(0, 4);
        for (int c = 0; c < 8; c++) {
            x.chair(c, 0, 3);
        }
        x.sit(0, 0);
        x.sit(1, 1);
        return x;
    }

    private static void gets() {
        WindowChairs x = Due.with(0, 4);
        x.sit(0, 0);
        x.set(1, 2, 0);
        Due.due("18: there", x.gets(0, 0), 0);
        Due.due("18: two on", x.gets(1, 0), 2);
        Due.due("18: on the way", x.gets(1, 2), 1);
        Due.due("18: never", x.gets(1, 7), Due.NONE);
        Due.due("18: changes nothing", x.of(1, 5), -1);
        WindowChairs y = Due.with(0);
        y.sit(0, 0);
        y.chair(0, 0, 11);
        y.chair(1, 0, 8);
        Due.due("18: by the sun", y.gets(0, 1), 11);
        Due.due("18: beyond", x.gets(2, 0), Due.BEYOND);
        Due.due("18: beyond", x.gets(-1, 0), Due.BEYOND);
        Due.due("18: beyond", x.gets(0, -1), Due.BEYOND);
        Due.due("18: beyond", x.gets(0, 8), Due.BEYOND);
        for (int far : Due.FAR) {
            Due.due("18: beyond", x.gets(far, 0), Due.BEYOND);
            Due.due("18: beyond", x.gets(0, far), Due.BEYOND);
        }
    }

    /** Rooms in which it takes 62 hours: 60 is the last that is told. */
    private static void sixtyOn() {
        WindowChairs x = Due.room(21,
            new int[][] {{2, 0, 3, 1}, {2, 0, 2, 4}, {3, 0, 6, -1}, {2, 0, 7, -1}},
            new int[] {15, 15, 11, 8, 13, 7, 10, 1}, new int[] {9, 5, 4, 2, 4, 2, 5, 1}, 1, 12, 23);
        WindowChairs y = Due.room(3,
            new int[][] {{3, 0, 6, 4}, {3, 0, 2, 7}, {1, 12, 2, -1}, {4, 51, 1, 2}, {4, 97, 3, -1}, {2, 25, 4, 6}},
            new int[] {14, 9, 7, 20, 19, 17, 17, 15}, new int[] {9, 4, 6, 6, 8, 5, 8, 8}, 1, 2, 3, 4, 12, 13, 23, 45);
        for (int left = 62; left > 0; left--) {
            Due.due("17: " + left + " left", x.settles(), left > 60 ? Due.NONE : left);
            Due.due("18: " + left + " left", y.gets(2, 0), left > 60 ? Due.NONE : left);
            x.hours(1);
            y.hours(1);
        }
        Due.due("17: quiet", x.hours(1), 0);
        Due.due("18: there", y.of(2, 5), 0);
    }
}
