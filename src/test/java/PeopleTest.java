/** Promises 4 to 12. */
final class PeopleTest {
    public static void main(String[] args) {
        person();
        of();
        set();
        turn();
        as();
        quarrel();
        sit();
        change();
        likes();
        minds();
        well();
        Due.end();
    }

    private static void person() {
        WindowChairs x = new WindowChairs();
        for (int p = 0; p < 8; p++) {
            Due.due("4: number", x.person(p % 6), p);
            Due.due("4: kind", x.of(p, 0), p % 6);
            Due.due("4: years", x.of(p, 1), 0);
            Due.due("4: claim", x.of(p, 2), -1);
            Due.due("4: quarrels", x.of(p, 3), 0);
            Due.due("4: gap", x.of(p, 4), 0);
            Due.due("4: stands", x.of(p, 5), -1);
        }
        Due.due("4: full", x.person(0), Due.FULL);
        Due.due("4: beyond before full", x.person(6), Due.BEYOND);
        Due.due("4: beyond before full", x.person(-1), Due.BEYOND);
        Due.due("4: changes nothing", x.count(0), 8);
        WindowChairs y = new WindowChairs();
        for (int far : Due.FAR) {
            Due.due("4: beyond", y.person(far), Due.BEYOND);
        }
        Due.due("4: beyond", y.person(6), Due.BEYOND);
        Due.due("4: nobody came", y.count(0), 0);
    }

    private static void of() {
        WindowChairs x = Due.with(0, 1, 2, 3, 4, 5);
        int[] young = {8, 8, 8, 4, 99, 4};
        int[] aged = {8, 17, 8, 4, 99, 4};
        for (int p = 0; p < 6; p++) {
            Due.due("5: gives up, kind " + p, x.of(p, 6), young[p]);
            x.set(p, 1, 99);
            Due.due("5: gives up, kind " + p, x.of(p, 6), aged[p]);
        }
        x.set(1, 1, 39);
        Due.due("5: a tenth, cut", x.of(1, 6), 11);
        x.quarrel(5, 0, 1);
        x.quarrel(2, 5, 1);
        Due.due("5: set", x.of(5, 3), 5);
        Due.due("5: set", x.of(0, 3), 32);
        Due.due("5: set", x.of(2, 3), 32);
        Due.due("5: beyond", x.of(6, 0), Due.BEYOND);
        Due.due("5: beyond", x.of(-1, 0), Due.BEYOND);
        Due.due("5: beyond", x.of(0, -1), Due.BEYOND);
        Due.due("5: beyond", x.of(0, 7), Due.BEYOND);
        for (int far : Due.FAR) {
            Due.due("5: beyond", x.of(far, 0), Due.BEYOND);
            Due.due("5: beyond", x.of(0, far), Due.BEYOND);
        }
    }

    private static void set() {
        WindowChairs x = Due.with(1, 1);
        Due.due("6: years", x.set(1, 1, 99), 0);
        Due.due("6: years", x.set(1, 1, 0), 99);
        Due.due("6: years", x.set(1, 1, 50), 0);
        Due.due("6: claim", x.set(1, 2, 7), -1);
        Due.due("6: claim", x.set(1, 2, 0), 7);
        Due.due("6: claim", x.set(1, 2, -1), 0);
        Due.due("6: gap", x.set(1, 4, 9999), 0);
        Due.due("6: gap", x.set(1, 4, 0), 9999);
        Due.due("6: gap", x.set(1, 4, 77), 0);
        Due.due("6: kept", x.of(1, 1) * 100000L + x.of(1, 4), 5000077);
        Due.due("6: of the other one", x.of(0, 1) + x.of(0, 2) + x.of(0, 4), -1);
        String was = Due.look(x);
        int[][] wrong = {{-1, 1, 0}, {2, 1, 0}, {0, 0, 0}, {0, 3, 0}, {0, 5, 0}, {0, 6, 0}, {0, -1, 0}, {0, 1, -1},
            {0, 1, 100}, {0, 2, -2}, {0, 2, 8}, {0, 4, -1}, {0, 4, 10000}};
        for (int[] w : wrong) {
            Due.due("6: beyond", x.set(w[0], w[1], w[2]), Due.BEYOND);
        }
        for (int far : Due.FAR) {
            Due.due("6: beyond", x.set(far, 1, 0), Due.BEYOND);
            Due.due("6: beyond", x.set(0, far, 0), Due.BEYOND);
            Due.due("6: beyond", x.set(0, 2, far), Due.BEYOND);
        }
        Due.due("6: changes nothing", Due.look(x), was);
    }

    private static void turn() {
        WindowChairs x = Due.with(2, 3);
        x.set(0, 1, 60);
        x.sit(0, 4);
        Due.due("7: was", x.turn(0, 4), 2);
        Due.due("7: is", x.of(0, 0), 4);
        Due.due("7: years stay", x.of(0, 1), 60);
        Due.due("7: chair stays", x.of(0, 5), 4);
        Due.due("7: the same", x.turn(0, 4), 4);
        Due.due("7: back", x.turn(0, 0), 4);
        Due.due("7: the other one", x.of(1, 0), 3);
        Due.due("7: beyond", x.turn(2, 0), Due.BEYOND);
        Due.due("7: beyond", x.turn(-1, 0), Due.BEYOND);
        Due.due("7: beyond", x.turn(0, 6), Due.BEYOND);
        Due.due("7: beyond", x.turn(0, -1), Due.BEYOND);
        for (int far : Due.FAR) {
            Due.due("7: beyond", x.turn(far, 0), Due.BEYOND);
            Due.due("7: beyond", x.turn(0, far), Due.BEYOND);
        }
        Due.due("7: changes nothing", x.of(0, 0), 0);
    }

    private static void as() {
        WindowChairs x = Due.with(0, 1, 2, 3, 4, 5);
        // By kind of the one: the kinds as one of which it may be taken, as a set.
        int[] under = {1, 3, 5, 9, 19, 41};
        for (int p = 0; p < 6; p++) {
            x.set(p, 1, 10 + p);
            for (int k = 0; k < 6; k++) {
                Due.due("8: " + p + " as " + k, x.as(p, k), (under[p] >> k & 1) == 1 ? 10 + p : Due.KIND);
            }
        }
        Due.due("8: beyond", x.as(6, 0), Due.BEYOND);
        Due.due("8: beyond", x.as(-1, 0), Due.BEYOND);
        Due.due("8: beyond", x.as(0, 6), Due.BEYOND);
        Due.due("8: beyond", x.as(0, -1), Due.BEYOND);
        for (int far : Due.FAR) {
            Due.due("8: beyond", x.as(far, 1), Due.BEYOND);
            Due.due("8: beyond", x.as(0, far), Due.BEYOND);
        }
    }

    private static void quarrel() {
        WindowChairs x = Due.with(0, 0, 0);
        Due.due("9: was", x.quarrel(2, 0, 1), 0);
        Due.due("9: was", x.quarrel(0, 2, 1), 1);
        Due.due("9: each with the other", x.of(0, 3) * 10 + x.of(2, 3), 41);
        Due.due("9: not the third", x.of(1, 3), 0);
        x.quarrel(1, 2, 1);
        Due.due("9: made up", x.quarrel(0, 2, 0), 1);
        Due.due("9: made up", x.quarrel(0, 2, 0), 0);
        Due.due("9: the other quarrel stays", x.of(2, 3), 2);
        int[][] wrong = {{0, 0, 1}, {1, 1, 0}, {-1, 0, 1}, {3, 0, 1}, {0, -1, 1}, {0, 3, 1}, {0, 1, 2}, {0, 1, -1}};
        String was = Due.look(x);
        for (int[] w : wrong) {
            Due.due("9: beyond", x.quarrel(w[0], w[1], w[2]), Due.BEYOND);
        }
        for (int far : Due.FAR) {
            Due.due("9: beyond", x.quarrel(far, 0, 1), Due.BEYOND);
            Due.due("9: beyond", x.quarrel(0, far, 1), Due.BEYOND);
            Due.due("9: beyond", x.quarrel(0, 1, far), Due.BEYOND);
        }
        Due.due("9: changes nothing", Due.look(x), was);
    }

    private static void sit() {
        WindowChairs x = Due.with(0, 0);
        Due.due("10: from standing", x.sit(0, 7), -1);
        Due.due("10: moves", x.sit(0, 0), 7);
        Due.due("10: left empty", x.chairOf(7, 2), -1);
        Due.due("10: sits", x.chairOf(0, 2), 0);
        Due.due("10: its own", x.sit(0, 0), 0);
        Due.due("10: still sits", x.chairOf(0, 2), 0);
        Due.due("10: another's", x.sit(1, 0), Due.STATE);
        Due.due("10: changes nothing", x.of(1, 5), -1);
        Due.due("10: stands", x.sit(1, -1), -1);
        Due.due("10: up", x.sit(0, -1), 0);
        Due.due("10: stands", x.of(0, 5), -1);
        Due.due("10: free then", x.sit(1, 0), -1);
        Due.due("10: beyond", x.sit(2, 0), Due.BEYOND);
        Due.due("10: beyond", x.sit(-1, 0), Due.BEYOND);
        Due.due("10: beyond", x.sit(0, 8), Due.BEYOND);
        Due.due("10: beyond", x.sit(0, -2), Due.BEYOND);
        for (int far : Due.FAR) {
            Due.due("10: beyond", x.sit(far, 0), Due.BEYOND);
            Due.due("10: beyond", x.sit(0, far), Due.BEYOND);
        }
        Due.due("10: one sits", x.now(3), 2);
    }

    private static void change() {
        WindowChairs x = Due.with(0, 0, 0);
        x.sit(0, 2);
        x.sit(1, 5);
        Due.due("11: both sit", x.change(0, 1), 1);
        Due.due("11: chairs", x.chairOf(2, 2) * 10 + x.chairOf(5, 2), 10);
        Due.due("11: of", x.of(0, 5) * 10 + x.of(1, 5), 52);
        Due.due("11: one stands", x.change(2, 1), 1);
        Due.due("11: chairs", x.chairOf(2, 2), 2);
        Due.due("11: of", x.of(1, 5), -1);
        Due.due("11: the other stands", x.change(2, 1), 1);
        Due.due("11: back", x.of(1, 5) * 10 + x.of(2, 5), 19);
        x.sit(1, -1);
        Due.due("11: both stand", x.change(1, 2), 1);
        Due.due("11: still", x.now(3), 1);
        int[][] wrong = {{0, 0}, {2, 2}, {-1, 0}, {3, 0}, {0, -1}, {0, 3}};
        for (int[] w : wrong) {
            Due.due("11: beyond", x.change(w[0], w[1]), Due.BEYOND);
        }
        for (int far : Due.FAR) {
            Due.due("11: beyond", x.change(far, 0), Due.BEYOND);
            Due.due("11: beyond", x.change(0, far), Due.BEYOND);
        }
    }

    /** What each kind LIKES: alone, with and without CLAIM, SUN, at VIEWS 10 and 11. */
    private static void likes() {
        // guest old talker deaf queen sleeper
        int[] at3 = {1001, 1001, 1004, 1000 + 1 - 4, 1001, 997};
        int[] claimed = {1001, 1001 + 9, 1004, 997, 1001 + 9 + 10, 997};
        int[] sunAt11 = {1005, 1005, 1008, 1001, 1005, 1001};
        int[] sunAt10 = {1008, 1008, 1011, 1001, 1008, 1001};
        int[] trolley = {1002, 1002, 1005, 999, 1002, 1005};
        for (int k = 0; k < 6; k++) {
            WindowChairs x = Due.with(k);
            x.set(0, 1, 39);
            x.chair(3, 1, 2);
            Due.due("12: likes, kind " + k, x.well(0, 3), at3[k]);
            x.set(0, 2, 3);
            Due.due("12: likes its claim, kind " + k, x.well(0, 3), claimed[k]);
            x.set(0, 2, 4);
            Due.due("12: another claim, kind " + k, x.well(0, 3), at3[k]);
            Due.due("12: by the trolley, kind " + k, x.well(0, 7), trolley[k]);
            x.hours(10);
            x.chair(3, 0, 11);
            Due.due("12: sun at 11, kind " + k, x.well(0, 3), sunAt11[k]);
            x.chair(3, 0, 10);
            Due.due("12: no sun at 10, kind " + k, x.well(0, 3), sunAt10[k]);
        }
    }

    /** What each kind MINDS of a guest, of a talker, and of one with whom it quarrels. */
    private static void minds() {
        int[] guest = {1, 1, 2, 0, -1, 0};
        int[] talker = {1, 1, 2, 0, -1, -1};
        int[] odds = {-6, -6, -12, 0, -8, 0};
        for (int k = 0; k < 6; k++) {
            WindowChairs x = Due.with(k, 0, 2, 5);
            int alone = x.well(0, 3);
            x.sit(1, 2);
            Due.due("12: minds a guest before it, kind " + k, x.well(0, 3) - alone, guest[k]);
            x.sit(1, 4);
            Due.due("12: minds a guest behind it, kind " + k, x.well(0, 3) - alone, guest[k]);
            x.sit(2, 2);
            Due.due("12: minds both, kind " + k, x.well(0, 3) - alone, guest[k] + talker[k]);
            x.quarrel(0, 1, 1);
            Due.due("12: minds a quarrel, kind " + k, x.well(0, 3) - alone, odds[k] + talker[k]);
            x.quarrel(0, 2, 1);
            Due.due("12: minds two, kind " + k, x.well(0, 3) - alone, 2 * odds[k] + (k == 5 ? -1 : 0));
            x.quarrel(1, 2, 1);
            Due.due("12: not theirs, kind " + k, x.well(0, 3) - alone, 2 * odds[k] + (k == 5 ? -1 : 0));
        }
    }

    private static void well() {
        WindowChairs x = Due.with(0, 0, 0);
        x.sit(0, 3);
        Due.due("12: not itself", x.well(0, 4), 1002);
        x.sit(1, 4);
        Due.due("12: beside", x.well(0, 3), 1003);
        Due.due("12: two off", x.well(0, 6), 1002);
        Due.due("12: were who sits there gone", x.well(0, 4), 1002);
        Due.due("12: stands", x.well(2, 4), 1003);
        x.sit(1, 0);
        x.sit(2, 7);
        Due.due("12: not round the row", x.well(0, 0), 1014);
        Due.due("12: not round the row", x.well(0, 7), 1002);
        x.chair(7, 0, 0);
        x.chair(7, 1, 9);
        Due.due("12: below", x.well(0, 7), 991);
        Due.due("12: beyond", x.well(3, 0), Due.BEYOND);
        Due.due("12: beyond", x.well(-1, 0), Due.BEYOND);
        Due.due("12: beyond", x.well(0, -1), Due.BEYOND);
        Due.due("12: beyond", x.well(0, 8), Due.BEYOND);
        for (int far : Due.FAR) {
            Due.due("12: beyond", x.well(far, 0), Due.BEYOND);
            Due.due("12: beyond", x.well(0, far), Due.BEYOND);
        }
    }
}
