/** Promises 13 to 18: their boundary cases, sentence by sentence. */
final class EdgeHoursTest {
    public static void main(String[] args) {
        hoursRange();
        hoursAllGo();
        hoursTheLastOfThem();
        hoursState();
        hoursNobodyThere();
        nowWhat();
        nowNobodyAndAll();
        onWhom();
        onHours();
        onWhat();
        peaceHours();
        settlesAtOnce();
        settlesNever();
        settlesIsTold60();
        getsRanges();
        getsAtOnce();
        getsNever();
        getsBeyondBeforeNone();
        Due.end();
    }

    private static WindowChairs one() {
        return Due.with(0);
    }

    private static void hoursRange() {
        Edge.range("13: n", EdgeHoursTest::one, (x, n) -> x.hours(n), Edge.end(1, 1), Edge.end(60, 0));
        Edge.beyond("13: n, full", Edge::full, (x, n) -> x.hours(n), 0, 61);
        Edge.beyond("13: n", Edge::some, (x, n) -> x.hours(n), 0, 61);
        Edge.beyond("13: n, nobody there", WindowChairs::new, (x, n) -> x.hours(n), 0, 61);
    }

    private static void hoursAllGo() {
        Edge.becomes("13: hour", WindowChairs::new, (x, n) -> x.hours(n), x -> x.now(0), 1, 2, 59, 60);
        WindowChairs x = Edge.some();
        WindowChairs y = Edge.some();
        x.hours(60);
        for (int n = 0; n < 60; n++) {
            y.hours(1);
        }
        Due.due("13: 60 as 60 times 1", Edge.all(x), Edge.all(y));
    }

    private static void hoursTheLastOfThem() {
        Due.due("13: three move in the first", Due.with(3, 3, 3).hours(1), 3);
        Due.due("13: and none in the second", Due.with(3, 3, 3).hours(2), 0);
        WindowChairs x = Due.with(0);
        x.chair(0, 0, 11);
        x.chair(1, 0, 8);
        x.hours(9);
        Due.due("13: none in the first, one in the second", x.hours(2), 1);
        Due.due("13: who takes a claim, not who gives it up", claimed().hours(1), 1);
        Due.due("13: eight", Due.with(3, 3, 3, 3, 3, 3, 3, 3).hours(1), 8);
    }

    private static WindowChairs claimed() {
        WindowChairs x = Due.with(3, 4);
        x.sit(0, 0);
        x.sit(1, 4);
        x.set(1, 2, 0);
        return x;
    }

    /** An object's 512 calls don't bring HOUR to its limit; what is told there holds beyond them too. */
    private static void hoursState() {
        WindowChairs x = new WindowChairs();
        for (int i = 0; i < 1666; i++) {
            x.hours(60);
        }
        Due.due("13: 99960 and 40", x.hours(40), Due.STATE);
        Due.due("13: 99960 and 60", x.hours(60), Due.STATE);
        Due.due("13: BEYOND ahead of STATE", x.hours(61), Due.BEYOND);
        Due.due("13: nothing went", x.now(0), 99960);
        Due.due("13: 99960 and 39", x.hours(39), 0);
        Due.due("13: the last hour", x.now(0), 99999);
        Due.due("13: one more", x.hours(1), Due.STATE);
        Due.due("13: BEYOND ahead of STATE", x.hours(0), Due.BEYOND);
        Due.due("13: counted", x.status(4) * 10 + x.status(0), 32);
        Due.due("13: on, from there", x.peace(60), 10000);
    }

    private static void hoursNobodyThere() {
        WindowChairs x = new WindowChairs();
        Due.due("13: nobody there", x.hours(60), 0);
        Due.due("13: they go", x.now(0), 60);
    }

    private static void nowWhat() {
        Edge.range("14: what", Edge::some, (x, what) -> x.now(what), Edge.end(0, 5), Edge.end(5, 121));
        Edge.range("14: what, full", Edge::full, (x, what) -> x.now(what), Edge.end(0, 1), Edge.end(5, 0));
        Edge.range("14: what, nobody there", WindowChairs::new, (x, what) -> x.now(what), Edge.end(0, 0), Edge.end(5, 255));
        int[] due = {5, 5, 0, 13, 9994, 121};
        for (int what = 0; what < 6; what++) {
            int asked = what;
            Edge.asked("14: what " + what, Edge::some, x -> x.now(asked), due[what]);
        }
    }

    private static void nowNobodyAndAll() {
        WindowChairs x = Due.with(3, 3, 3, 3, 3, 3, 3, 3);
        Due.due("14: nobody sits", x.now(3) * 1000 + x.now(5), 255);
        for (int n = 1; n <= 8; n++) {
            x.sit(n - 1, 8 - n);
            Due.due("14: those that sit, " + n, x.now(3), (1 << n) - 1);
            Due.due("14: chairs that are empty, " + n, x.now(5), (1 << 8 - n) - 1);
        }
        Due.due("14: peace, all deaf", x.now(4), 10000 + 5 - 7);
    }

    private static void onWhom() {
        Edge.range("15: person", Edge::some, (x, p) -> x.on(p, 0, 0), Edge.end(0, 1), Edge.end(3, 7));
        Edge.range("15: person of eight", Edge::full, (x, p) -> x.on(p, 0, 0), Edge.end(0, 0), Edge.end(7, 6));
        Edge.beyond("15: nobody there", WindowChairs::new, (x, p) -> x.on(p, 0, 0), -1, 0);
    }

    private static void onHours() {
        Edge.range("15: n, gap", Edge::sleeper, (x, n) -> x.on(0, n, 1), Edge.end(0, 0), Edge.end(60, 60));
        Edge.range("15: n, chair", Edge::sleeper, (x, n) -> x.on(0, n, 0), Edge.end(0, -1), Edge.end(60, 7));
        for (int n = 0; n <= 60; n++) {
            Due.due("15: gap on " + n, Edge.sleeper().on(0, n, 1), n);
        }
        Edge.asked("15: changes nothing", Edge::some, x -> x.on(1, 1, 0), 3);
    }

    private static void onWhat() {
        Edge.range("15: what", Edge::some, (x, what) -> x.on(3, 0, what), Edge.end(0, 7), Edge.end(1, 2));
        Edge.asked("15: it stands", Edge::some, x -> x.on(1, 0, 0), -1);
    }

    private static void peaceHours() {
        Edge.range("16: n", EdgeHoursTest::one, (x, n) -> x.peace(n), Edge.end(0, 10000), Edge.end(60, 10010));
        Edge.range("16: n, nobody there", WindowChairs::new, (x, n) -> x.peace(n), Edge.end(0, 10000), Edge.end(60, 10000));
        // Hours 57 and 58 of the clock, 62 and 63: SUN comes and goes between them.
        WindowChairs x = one();
        Due.due("16: on 57", x.peace(57), 10014);
        Due.due("16: on 58", x.peace(58), 10010);
        x.hours(3);
        Due.due("16: on 59, at 62", x.peace(59), 10010);
        Due.due("16: on 60, at 63", x.peace(60), 10014);
        Edge.asked("16: on 0, below 10000", Edge::some, y -> y.peace(0), 9994);
    }

    private static void settlesAtOnce() {
        Edge.asked("17: nobody there", WindowChairs::new, x -> x.settles(), 0);
        WindowChairs x = one();
        Due.due("17: one that stands", x.settles(), 1);
        x.hours(1);
        Due.due("17: one that sits", x.settles(), 0);
        Due.due("17: one that is about to take its claim", claimed().settles(), 1);
    }

    private static void settlesNever() {
        Edge.refused("17: they move every hour", EdgeHoursTest::chase, x -> x.settles(), Due.NONE);
        WindowChairs x = chase();
        x.hours(60);
        Due.due("17: they do yet", x.hours(1) > 0 ? 1 : 0, 1);
    }

    /** A guest who'd sit beside a queen, who'd rather not. */
    private static WindowChairs chase() {
        WindowChairs x = Due.with(0, 4);
        x.chair(0, 0, 3);
        x.sit(0, 0);
        x.sit(1, 1);
        return x;
    }

    /** It's quiet first in 62 hours (found by trying rooms): that, and 61, is too far; 60 is told. */
    private static WindowChairs late() {
        return Due.room(21,
            new int[][] {{2, 0, 3, 1}, {2, 0, 2, 4}, {3, 0, 6, -1}, {2, 0, 7, -1}},
            new int[] {15, 15, 11, 8, 13, 7, 10, 1}, new int[] {9, 5, 4, 2, 4, 2, 5, 1}, 1, 12, 23);
    }

    private static void settlesIsTold60() {
        Edge.refused("17: in 62", EdgeHoursTest::late, x -> x.settles(), Due.NONE);
        WindowChairs x = late();
        for (int n = 0; n < 62; n++) {
            Due.due("17: in " + (62 - n), x.settles(), n < 2 ? Due.NONE : 62 - n);
            Due.due("17: somebody moves yet", x.hours(1) > 0 ? 1 : 0, 1);
        }
        Due.due("17: nobody moves", x.hours(1), 0);
    }

    private static void getsRanges() {
        Edge.range("18: person", Edge::seated, (x, p) -> x.gets(p, p < 4 ? 0 : 7), Edge.end(0, 0), Edge.end(7, 0));
        Edge.range("18: chair", Edge::sleeper, (x, c) -> x.gets(c < 4 ? 1 : 0, c), Edge.end(0, 1), Edge.end(7, 1));
        Edge.beyond("18: nobody there", WindowChairs::new, (x, p) -> x.gets(p, 0), -1, 0);
        Edge.beyond("18: standing is no chair", Edge::some, (x, c) -> x.gets(1, c), -1);
    }

    private static void getsAtOnce() {
        Edge.asked("18: sits there", Edge::some, x -> x.gets(3, 7), 0);
        Edge.asked("18: in an hour", Edge::some, x -> x.gets(0, 0), 1);
        WindowChairs x = Due.with(0);
        x.sit(0, 4);
        Due.due("18: leaves it, but sits there now", x.gets(0, 4), 0);
    }

    private static void getsNever() {
        Edge.refused("18: never", Edge::some, x -> x.gets(3, 5), Due.NONE);
        // 62 hours to go, as settles() has them.
        WindowChairs y = Due.room(3,
            new int[][] {{3, 0, 6, 4}, {3, 0, 2, 7}, {1, 12, 2, -1}, {4, 51, 1, 2}, {4, 97, 3, -1}, {2, 25, 4, 6}},
            new int[] {14, 9, 7, 20, 19, 17, 17, 15}, new int[] {9, 4, 6, 6, 8, 5, 8, 8}, 1, 2, 3, 4, 12, 13, 23, 45);
        for (int n = 0; n < 62; n++) {
            Due.due("18: in " + (62 - n), y.gets(2, 0), n < 2 ? Due.NONE : 62 - n);
            Due.due("18: not yet", y.of(2, 5) == 0 ? 1 : 0, 0);
            y.hours(1);
        }
        Due.due("18: there", y.of(2, 5), 0);
    }

    private static void getsBeyondBeforeNone() {
        Edge.beyond("18: no such one, who'd never", Edge::some, (x, p) -> x.gets(p, 5), -1, 4);
        Edge.beyond("18: no such chair, in which nobody ever sits", Edge::some, (x, c) -> x.gets(3, c), -1, 8);
    }
}
