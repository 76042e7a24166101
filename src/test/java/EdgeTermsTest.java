/** "Terms": the boundary cases that its sentences name, one by one. */
final class EdgeTermsTest {
    public static void main(String[] args) {
        findingsAreNumbers();
        findingsInLongs();
        quotientsAreCut();
        setsAreToldByBits();
        chairsInARow();
        viewsAndDraughtsAtFirst();
        trolley();
        hourOfTheDay();
        sunFromTenToFourteen();
        peopleAtFirst();
        gapIsHeld();
        quarrelsAreOfBoth();
        sunAboveTen();
        likesItsClaimAlone();
        likesTheTrolley();
        mindsBesideAlone();
        sitsButNotBesideItself();
        sleeperMindsTalkersAlone();
        EdgeTermsHours.all();
        Due.end();
    }

    private static void findingsAreNumbers() {
        WindowChairs x = Edge.full();
        Due.due("terms: BEYOND", x.person(6), -1000000001);
        Due.due("terms: FULL", x.person(0), -1000000002);
        Due.due("terms: KIND", x.as(0, 1), -1000000003);
        Due.due("terms: NONE", new WindowChairs().undo(), -1000000004);
        Due.due("terms: STATE", x.sit(0, x.of(1, 5)), -1000000005);
        Due.due("terms: MISSING", x.lays(3), -1000000006);
        Due.due("terms: SIZE", x.best(), -1000000007);
    }

    private static void findingsInLongs() {
        WindowChairs x = Edge.some();
        Due.due("terms: BEYOND, a long", x.write(4, 0, 0), -1000000001L);
        Due.due("terms: MISSING, a long", x.write(3, 0, 0), -1000000006L);
        Due.due("terms: no other bits above", x.write(2, 2, Long.MAX_VALUE) >> 32, -1L);
    }

    private static void quotientsAreCut() {
        for (int y = 0; y < 100; y++) {
            WindowChairs x = Due.with(1, 4);
            x.set(0, 2, 5);
            x.set(1, 2, 5);
            x.set(0, 1, y);
            x.set(1, 1, y);
            Due.due("terms: a fourth of " + y, x.well(0, 5), 1002 + (y - y % 4) / 4);
            Due.due("terms: a fourth of " + y + ", queen", x.well(1, 5), 1012 + (y - y % 4) / 4);
            Due.due("terms: a tenth of " + y, x.of(0, 6), 8 + (y - y % 10) / 10);
        }
        WindowChairs x = Due.with(3, 5);
        x.chair(5, 1, 0);
        for (int v = 0; v <= 20; v++) {
            x.chair(5, 0, v);
            Due.due("terms: half of " + v, x.well(0, 5), 1000 + (v - v % 2) / 2);
            Due.due("terms: half of " + v + ", sleeper", x.well(1, 5), 1000 + (v - v % 2) / 2);
        }
        // Half of 1, less 18: what is cut is the half, not the difference.
        x.chair(5, 0, 1);
        x.chair(5, 1, 9);
        Due.due("terms: half of 1, less twice 9", x.well(0, 5), 982);
    }

    private static void setsAreToldByBits() {
        WindowChairs x = Due.with(0, 0, 0, 0, 0, 0, 0, 0);
        x.quarrel(0, 7, 1);
        Due.due("terms: the last of people", x.of(0, 3), 128);
        Due.due("terms: the first of people", x.of(7, 3), 1);
        for (int p = 0; p < 8; p++) {
            if (p != 3) {
                x.quarrel(3, p, 1);
            }
        }
        Due.due("terms: all but itself", x.of(3, 3), 247);
        x.sit(7, 0);
        Due.due("terms: the last one sits", x.now(3), 128);
        Due.due("terms: in the first chair", x.now(5), 254);
        x.sit(7, 7);
        Due.due("terms: in the last chair", x.now(5), 127);
        Due.due("terms: nobody, a set", new WindowChairs().now(3), 0);
    }

    private static void chairsInARow() {
        WindowChairs x = Due.with(0, 0);
        for (int c = 0; c < 8; c++) {
            x.sit(1, c);
            for (int d = 0; d < 8; d++) {
                int alone = d == 0 ? 1014 : 1002;
                Due.due("terms: " + d + " beside " + c, x.well(0, d), Math.abs(c - d) == 1 ? alone + 1 : alone);
            }
        }
    }

    private static void viewsAndDraughtsAtFirst() {
        WindowChairs x = new WindowChairs();
        Due.due("terms: view of chair 0", x.chairOf(0, 0), 15);
        for (int c = 1; c < 8; c++) {
            Due.due("terms: view of chair " + c, x.chairOf(c, 0), 3);
        }
        for (int c = 0; c < 8; c++) {
            Due.due("terms: draught of chair " + c, x.chairOf(c, 1), 1);
            Due.due("terms: nobody in chair " + c, x.chairOf(c, 2), -1);
        }
    }

    private static void trolley() {
        for (int c = 0; c < 8; c++) {
            WindowChairs x = Due.with(0);
            x.chair(0, 0, 3);
            x.sit(0, c);
            x.hours(1);
            Due.due("terms: an hour in chair " + c, x.of(0, 5) * 10 + x.of(0, 4), c == 7 ? 71 : c * 10);
        }
    }

    private static void hourOfTheDay() {
        WindowChairs x = new WindowChairs();
        Due.due("terms: hour at first", x.now(0) + x.now(1), 0);
        x.hours(23);
        Due.due("terms: 23", x.now(1), 23);
        x.hours(1);
        Due.due("terms: 24", x.now(0) * 100 + x.now(1), 2400);
        x.hours(23);
        Due.due("terms: 47", x.now(1), 23);
        x.hours(1);
        Due.due("terms: 48", x.now(0) * 100 + x.now(1), 4800);
    }

    private static void sunFromTenToFourteen() {
        WindowChairs x = Due.with(0);
        int[] hours = {0, 9, 10, 14, 15, 23, 24, 33, 34, 38, 39, 57, 58, 62, 63};
        int[] sun = {0, 0, 1, 1, 0, 0, 0, 0, 1, 1, 0, 0, 1, 1, 0};
        for (int i = 0; i < hours.length; i++) {
            if (hours[i] > 0) {
                x.hours(hours[i] - hours[i - 1]);
            }
            Due.due("terms: sun at " + hours[i], x.now(2), sun[i]);
            Due.due("terms: how well at " + hours[i], x.well(0, 0), 1014 - 4 * sun[i]);
        }
    }

    private static void peopleAtFirst() {
        for (int k = 0; k < 6; k++) {
            WindowChairs x = Due.with(k);
            Due.due("terms: kind", x.of(0, 0), k);
            Due.due("terms: years at first", x.of(0, 1), 0);
            Due.due("terms: no claim at first", x.of(0, 2), -1);
            Due.due("terms: no quarrels at first", x.of(0, 3), 0);
            Due.due("terms: gap at first", x.of(0, 4), 0);
            Due.due("terms: stands at first", x.of(0, 5), -1);
        }
    }

    private static void gapIsHeld() {
        WindowChairs x = Due.with(5);
        x.chair(0, 0, 3);
        x.set(0, 4, 9997);
        int[] gaps = {9998, 9999, 9999, 9999};
        for (int n = 0; n < 4; n++) {
            Due.due("terms: gap on " + (n + 1), x.on(0, n + 1, 1), gaps[n]);
        }
        for (int n = 0; n < 4; n++) {
            x.hours(1);
            Due.due("terms: gap", x.of(0, 4), gaps[n]);
        }
        x.hours(60);
        Due.due("terms: gap after 60 more", x.of(0, 4), 9999);
    }

    private static void quarrelsAreOfBoth() {
        for (int p = 0; p < 8; p++) {
            for (int q = 0; q < 8; q++) {
                if (p != q) {
                    WindowChairs x = Due.with(0, 0, 0, 0, 0, 0, 0, 0);
                    x.quarrel(p, q, 1);
                    Due.due("terms: quarrels with the other one", x.of(p, 3) * 1000 + x.of(q, 3), (1 << q) * 1000 + (1 << p));
                    x.quarrel(q, p, 0);
                    Due.due("terms: neither does", x.of(p, 3) + x.of(q, 3), 0);
                }
            }
        }
    }

    private static void sunAboveTen() {
        // guest old talker deaf queen sleeper, alone, draught 0, of views 10, 11, 20
        int[][] dark = {{10, 11, 20}, {10, 11, 20}, {13, 14, 23}, {5, 5, 10}, {10, 11, 20}, {5, 5, 10}};
        int[] views = {10, 11, 20};
        for (int k = 0; k < 6; k++) {
            WindowChairs x = Due.with(k);
            x.chair(4, 1, 0);
            for (int hour = 9; hour <= 10; hour++) {
                x.hours(hour == 9 ? 9 : 1);
                for (int i = 0; i < 3; i++) {
                    x.chair(4, 0, views[i]);
                    int less = hour == 10 && views[i] > 10 && k != 3 && k != 5 ? 4 : 0;
                    Due.due("terms: kind " + k + ", view " + views[i] + ", hour " + hour, x.well(0, 4), 1000 + dark[k][i] - less);
                }
                x.chair(4, 0, 3);
            }
        }
    }

    private static void likesItsClaimAlone() {
        int[] young = {0, 0, 0, 0, 10, 0};
        int[] aged = {0, 24, 0, 0, 34, 0};
        for (int k = 0; k < 6; k++) {
            for (int c = 0; c < 8; c += 7) {
                WindowChairs x = Due.with(k);
                int without = x.well(0, c);
                x.set(0, 2, c);
                Due.due("terms: its claim, 0 years, kind " + k, x.well(0, c) - without, young[k]);
                x.set(0, 1, 99);
                Due.due("terms: its claim, 99 years, kind " + k, x.well(0, c) - without, aged[k]);
                x.set(0, 2, c == 0 ? 1 : 6);
                Due.due("terms: the claim is beside, kind " + k, x.well(0, c), without);
                x.set(0, 2, -1);
                Due.due("terms: no claim, kind " + k, x.well(0, c), without);
            }
        }
    }

    private static void likesTheTrolley() {
        int[] more = {0, 0, 0, 0, 0, 6};
        for (int k = 0; k < 6; k++) {
            WindowChairs x = Due.with(k);
            Due.due("terms: by the trolley, kind " + k, x.well(0, 7) - x.well(0, 6), more[k]);
            Due.due("terms: not beside it, kind " + k, x.well(0, 6), x.well(0, 5));
        }
    }

    private static void mindsBesideAlone() {
        int[] one = {1, 1, 2, 0, -1, 0};
        int[] odds = {-6, -6, -12, 0, -8, 0};
        for (int k = 0; k < 6; k++) {
            WindowChairs x = Due.with(k, 0, 0);
            int alone = x.well(0, 4);
            x.sit(1, 2);
            x.sit(2, 6);
            x.quarrel(0, 1, 1);
            Due.due("terms: two off, kind " + k, x.well(0, 4), alone);
            x.sit(1, 3);
            Due.due("terms: a quarrel beside, kind " + k, x.well(0, 4), alone + odds[k]);
            x.sit(2, 5);
            Due.due("terms: either side, kind " + k, x.well(0, 4), alone + odds[k] + one[k]);
            x.sit(1, -1);
            Due.due("terms: who stands is not beside, kind " + k, x.well(0, 4), alone + one[k]);
        }
    }

    private static void sitsButNotBesideItself() {
        for (int k = 0; k < 6; k++) {
            WindowChairs x = Due.with(k, 0);
            int alone = x.well(0, 4);
            x.sit(0, 3);
            Due.due("terms: beside where it sits, kind " + k, x.well(0, 4), alone);
            x.sit(0, 5);
            Due.due("terms: beside where it sits, kind " + k, x.well(0, 4), alone);
            x.sit(0, 4);
            Due.due("terms: where it sits, kind " + k, x.well(0, 4), alone);
            x.sit(0, -1);
            x.sit(1, 4);
            Due.due("terms: where another one sits, kind " + k, x.well(0, 4), alone);
        }
    }

    private static void sleeperMindsTalkersAlone() {
        int[] less = {0, 0, -1, 0, 0, 0};
        for (int k = 0; k < 6; k++) {
            WindowChairs x = Due.with(5, k, 5, k);
            int alone = x.well(0, 4);
            x.sit(1, 3);
            Due.due("terms: a sleeper beside kind " + k, x.well(0, 4), alone + less[k]);
            x.sit(3, 5);
            Due.due("terms: a sleeper between two of kind " + k, x.well(0, 4), alone + 2 * less[k]);
            x.quarrel(0, 1, 1);
            Due.due("terms: a sleeper's quarrel with kind " + k, x.well(0, 4), alone + 2 * less[k]);
        }
    }
}
