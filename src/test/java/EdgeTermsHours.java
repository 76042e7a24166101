/** "Terms": the boundary cases of an HOUR that goes; run by EdgeTermsTest. */
final class EdgeTermsHours {
    private EdgeTermsHours() {
    }

    static void all() {
        noChairIsEmpty();
        oneChairIsEmpty();
        ofSeveralTheLeast();
        movesIfItStands();
        movesIfBetter();
        claimOnlyIfItDoesNotMove();
        claimOfAnotherOneOnly();
        givesUpOrMore();
        givesUpByYears();
        queenGivesUpNever();
        changesEvenIfItSatBetter();
        byNumbers();
        gapOfWhoSitsThen();
        sunOfTheHourBefore();
        onChangesNothing();
        peaceOfAllThatSit();
    }

    private static WindowChairs eight(int kind) {
        WindowChairs x = new WindowChairs();
        for (int p = 0; p < 8; p++) {
            x.person(kind);
            x.sit(p, p);
        }
        return x;
    }

    private static void noChairIsEmpty() {
        WindowChairs x = eight(0);
        x.chair(7, 0, 20);
        Due.due("hour: no chair is empty, no claim", x.hours(1), 0);
        for (int p = 0; p < 8; p++) {
            Due.due("hour: stays", x.of(p, 5), p);
        }
        WindowChairs y = eight(4);
        for (int p = 0; p < 8; p++) {
            y.set(p, 2, 7 - p);
        }
        Due.due("hour: no chair is empty, queens' claims", y.hours(1), 0);
        Due.due("hour: it goes all the same", y.now(0), 1);
    }

    private static void oneChairIsEmpty() {
        WindowChairs x = eight(3);
        x.sit(0, -1);
        Due.due("hour: one stands, one is empty", x.hours(1), 1);
        Due.due("hour: there", x.of(0, 5), 0);
        x.sit(0, -1);
        x.sit(7, 0);
        Due.due("hour: the last is empty", x.hours(1), 1);
        Due.due("hour: there", x.of(0, 5), 7);
    }

    private static void ofSeveralTheLeast() {
        WindowChairs x = Due.with(3);
        x.chair(0, 0, 3);
        x.hours(1);
        Due.due("hour: of all eight", x.of(0, 5), 0);
        x.sit(0, -1);
        x.chair(0, 0, 0);
        x.hours(1);
        Due.due("hour: of seven", x.of(0, 5), 1);
        x.chair(6, 0, 9);
        x.chair(7, 0, 9);
        x.hours(1);
        Due.due("hour: of the last two", x.of(0, 5), 6);
        x.chair(7, 0, 10);
        x.hours(1);
        Due.due("hour: the last", x.of(0, 5), 7);
    }

    private static void movesIfItStands() {
        WindowChairs x = Due.with(3);
        for (int c = 0; c < 8; c++) {
            x.chair(c, 0, 0);
            x.chair(c, 1, 9);
        }
        Due.due("hour: how well at best", x.well(0, 0), 982);
        Due.due("hour: it stands, all are bad", x.hours(1), 1);
        Due.due("hour: it sits all the same", x.of(0, 5), 0);
        Due.due("hour: and stays", x.hours(1), 0);
    }

    private static void movesIfBetter() {
        for (int to = 0; to < 8; to += 7) {
            WindowChairs x = Due.with(0);
            x.chair(0, 0, 3);
            x.sit(0, 4);
            x.chair(4, 0, 8);
            x.chair(to, 0, 8);
            Due.due("hour: as well is not better", x.hours(1), 0);
            Due.due("hour: it stays", x.of(0, 5), 4);
            x.chair(to, 0, 9);
            Due.due("hour: better by 1", x.hours(1), 1);
            Due.due("hour: it moves", x.of(0, 5), to);
        }
        WindowChairs y = Due.with(0);
        y.sit(0, 0);
        y.chair(1, 0, 16);
        Due.due("hour: better by 1, beside", y.hours(1), 1);
        Due.due("hour: it moves, and isn't beside itself", y.of(0, 5), 1);
    }

    /** 0 claims 0, in which 1 sits, and takes it unless an empty chair is better than its own. */
    private static void claimOnlyIfItDoesNotMove() {
        WindowChairs x = Due.with(4, 0);
        x.set(0, 2, 0);
        x.sit(1, 0);
        x.sit(0, 5);
        x.chair(5, 0, 9);
        x.chair(6, 0, 9);
        Due.due("hour: no better empty chair", x.on(0, 1, 0), 0);
        x.chair(6, 0, 10);
        Due.due("hour: a better empty chair first", x.on(0, 1, 0), 6);
        Due.due("hour: the claim then", x.on(0, 2, 0), 0);
        x.sit(0, -1);
        Due.due("hour: an empty chair first, if it stands", x.on(0, 1, 0), 6);
    }

    private static void claimOfAnotherOneOnly() {
        WindowChairs x = Due.with(4, 3);
        x.set(0, 2, 3);
        x.sit(0, 3);
        x.sit(1, 0);
        Due.due("hour: it sits in its claim", x.hours(1), 0);
        x.sit(0, 5);
        x.chair(5, 0, 20);
        Due.due("hour: nobody sits in its claim, which is no better", x.hours(1), 0);
        Due.due("hour: it stays", x.of(0, 5), 5);
        x.set(0, 2, -1);
        Due.due("hour: no claim", x.hours(1), 0);
        x.set(0, 2, 0);
        Due.due("hour: another one's", x.hours(1), 1);
        Due.due("hour: they change", x.of(0, 5) * 10 + x.of(1, 5), 5);
    }

    /** Whether one of a KIND, in CHAIR 0 of a VIEW without DRAUGHT, must give it up to an OLD one of some YEARS. */
    private static int giveUp(int kind, int itsYears, int view, int years) {
        WindowChairs x = Due.with(1, kind);
        x.set(0, 2, 0);
        x.set(0, 1, years);
        x.set(1, 1, itsYears);
        x.sit(0, 4);
        x.chair(4, 0, 20);
        x.chair(4, 1, 0);
        x.sit(1, 0);
        x.chair(0, 0, view);
        x.chair(0, 1, 0);
        return x.on(0, 1, 0) == 0 ? 1 : 0;
    }

    private static void givesUpOrMore() {
        // view and y / 4 against what it likes, and what it gives up
        Due.due("hour: a guest, 7 better", giveUp(0, 0, 9, 31), 0);
        Due.due("hour: a guest, 8 better", giveUp(0, 0, 9, 32), 1);
        Due.due("hour: a guest, 9 better", giveUp(0, 0, 9, 36), 1);
        Due.due("hour: a talker, 7 better", giveUp(2, 0, 9, 43), 0);
        Due.due("hour: a talker, 8 better", giveUp(2, 0, 9, 44), 1);
        Due.due("hour: one deaf, 3 better", giveUp(3, 0, 6, 3), 0);
        Due.due("hour: one deaf, 4 better", giveUp(3, 0, 6, 4), 1);
        Due.due("hour: one deaf, 4 better", giveUp(3, 0, 7, 0), 1);
        Due.due("hour: a sleeper, 3 better", giveUp(5, 99, 6, 3), 0);
        Due.due("hour: a sleeper, 4 better", giveUp(5, 99, 6, 4), 1);
    }

    private static void givesUpByYears() {
        Due.due("hour: an old one of 0, 7 better", giveUp(1, 0, 9, 31), 0);
        Due.due("hour: an old one of 0, 8 better", giveUp(1, 0, 9, 32), 1);
        Due.due("hour: an old one of 9, 8 better", giveUp(1, 9, 9, 32), 1);
        Due.due("hour: an old one of 10, 8 better", giveUp(1, 10, 9, 35), 0);
        Due.due("hour: an old one of 10, 9 better", giveUp(1, 10, 9, 36), 1);
        Due.due("hour: an old one of 99, 16 better", giveUp(1, 99, 9, 67), 0);
        Due.due("hour: an old one of 99, 17 better", giveUp(1, 99, 9, 68), 1);
        Due.due("hour: a guest of 99, 8 better", giveUp(0, 99, 9, 32), 1);
    }

    private static void queenGivesUpNever() {
        Due.due("hour: a queen, 24 better", giveUp(4, 0, 9, 99), 0);
        WindowChairs x = Due.with(4, 4, 0);
        x.set(0, 2, 1);
        x.set(0, 1, 99);
        x.sit(0, 4);
        x.chair(4, 0, 20);
        x.sit(1, 1);
        x.sit(2, 0);
        x.quarrel(1, 2, 1);
        Due.due("hour: a queen beside one she quarrels with, 41 better", x.well(0, 1) - x.well(1, 1), 41);
        Due.due("hour: she doesn't", x.on(0, 1, 0), 4);
        Due.due("hour: what a queen gives up", x.of(1, 6), 99);
    }

    private static void changesEvenIfItSatBetter() {
        WindowChairs x = Due.with(4, 3);
        x.set(0, 2, 0);
        x.sit(0, 1);
        x.chair(1, 0, 20);
        x.chair(1, 1, 0);
        x.sit(1, 0);
        x.chair(0, 0, 6);
        Due.due("hour: there it sits", x.well(0, 1), 1019);
        Due.due("hour: its claim", x.well(0, 0), 1015);
        Due.due("hour: it is asked of the claim alone", x.on(0, 1, 0), 0);
    }

    private static void byNumbers() {
        for (int first = 0; first < 2; first++) {
            WindowChairs x = Due.with(3, 3);
            x.sit(first, 3);
            x.sit(1 - first, 4);
            x.hours(1);
            Due.due("hour: the lesser number has the first choice", x.of(0, 5), 0);
            Due.due("hour: the other one of what is left then", x.of(1, 5), first == 0 ? 4 : 3);
        }
        WindowChairs y = Due.with(3, 3);
        y.chair(3, 0, 10);
        y.chair(2, 0, 8);
        y.sit(0, 3);
        y.sit(1, 2);
        Due.due("hour: into what 0 has left in the same hour", y.on(1, 1, 0), 3);
        WindowChairs z = Due.with(3, 5);
        z.chair(0, 0, 3);
        z.chair(3, 0, 12);
        z.chair(2, 0, 8);
        z.sit(0, 2);
        z.sit(1, 3);
        Due.due("hour: what 1 leaves is not free yet", z.on(0, 1, 0) * 10 + z.on(1, 1, 0), 27);
        Due.due("hour: but in the next one", z.on(0, 2, 0), 3);
    }

    private static void gapOfWhoSitsThen() {
        WindowChairs x = Due.with(3, 5);
        x.sit(0, 7);
        x.sit(1, 4);
        x.chair(0, 0, 20);
        x.chair(7, 0, 6);
        Due.due("hour: who left has none", x.on(0, 1, 1), 0);
        Due.due("hour: who came has one", x.on(1, 1, 1), 1);
        Due.due("hour: nobody there", new WindowChairs().hours(1), 0);
    }

    /** One moves by the SUN of the HOUR that was told before it went. */
    private static void sunOfTheHourBefore() {
        WindowChairs x = Due.with(0);
        x.chair(0, 0, 11);
        x.chair(1, 0, 8);
        x.hours(10);
        Due.due("hour: at 10 it sits there yet", x.of(0, 5), 0);
        Due.due("hour: it moves", x.hours(1), 1);
        x.hours(3);
        Due.due("hour: at 14", x.now(0) * 10 + x.of(0, 5), 141);
        Due.due("hour: at 14 there is sun yet", x.hours(1), 0);
        Due.due("hour: at 15 none", x.hours(1), 1);
    }

    private static void onChangesNothing() {
        Edge.asked("on: 60 hours", Edge::some, x -> x.on(0, 60, 1) * 0, 0);
        Edge.asked("on: 60 hours, full", Edge::full, x -> x.peace(60) * 0, 0);
        for (int n = 0; n <= 60; n++) {
            WindowChairs x = Edge.some();
            WindowChairs y = Edge.some();
            if (n > 0) {
                y.hours(n);
            }
            for (int p = 0; p < 4; p++) {
                Due.due("on: " + n, x.on(p, n, 0) * 100000 + x.on(p, n, 1), y.of(p, 5) * 100000 + y.of(p, 4));
            }
            Due.due("on: " + n, x.peace(n), y.now(4));
        }
    }

    private static void peaceOfAllThatSit() {
        WindowChairs x = new WindowChairs();
        Due.due("peace: nobody", x.now(4), 10000);
        x.person(2);
        Due.due("peace: one that stands", x.now(4), 10000);
        x.sit(0, 0);
        Due.due("peace: one", x.now(4), 10017);
        WindowChairs y = eight(2);
        Due.due("peace: eight", y.now(4), 10000 + 17 + 7 * 5 + 14 * 2);
        for (int c = 0; c < 8; c++) {
            y.chair(c, 0, 0);
            y.chair(c, 1, 9);
            for (int d = 0; d < c; d++) {
                y.quarrel(c, d, 1);
            }
        }
        Due.due("peace: eight, at worst", y.now(4), 10000 - 8 * 6 - 14 * 12);
    }
}
