/** Promises 19 to 25: their boundary cases, sentence by sentence. */
final class EdgeBestTest {
    public static void main(String[] args) {
        bestOfNobody();
        bestOfSix();
        bestOfMore();
        bestAmongThoseChairs();
        bestOfThoseThatSit();
        mendHours();
        mendNone();
        mendMoreThanAsItIs();
        mendTheLeast();
        mendBeyondBeforeNone();
        kindRanges();
        kindTheLeast();
        kindStanding();
        claimRanges();
        claimTheLeast();
        claimStanding();
        yearsRanges();
        yearsTheLeast();
        yearsNone();
        yearsBeyondBeforeNone();
        alwaysHours();
        alwaysTheLeast();
        alwaysNone();
        besideRanges();
        besideTheLeast();
        besideItsOwn();
        besideNone();
        Due.end();
    }

    private static void bestOfNobody() {
        Edge.asked("19: nobody there", WindowChairs::new, x -> x.best(), 10000);
        Edge.asked("19: eight stand", () -> Due.with(0, 1, 2, 3, 4, 5, 0, 1), x -> x.best(), 10000);
        WindowChairs x = Due.with(0, 2);
        x.sit(1, 7);
        Due.due("19: one sits", x.best(), 10005);
    }

    /** The last so many of eight guests sit, in the last CHAIRS. */
    private static WindowChairs sitting(int n) {
        WindowChairs x = Due.with(0, 0, 0, 0, 0, 0, 0, 0);
        for (int p = 8 - n; p < 8; p++) {
            x.sit(p, p);
        }
        return x;
    }

    private static void bestOfSix() {
        for (int n = 1; n <= 6; n++) {
            int many = n;
            Edge.asked("19: " + n + " sit", () -> sitting(many), x -> x.best(), 10000 + 2 * n + 2 * (n - 1));
        }
        for (int code = 0; code < 720; code++) {
            Due.due("19: one way of 720, or its mirror, from " + code, oneWay(code).best(), 10022);
        }
    }

    /** Six, each of whom quarrels with all but the next in the row 2 4 6 3 5 7; they sit in one of the 720 ways. */
    private static WindowChairs oneWay(int code) {
        int[] row = {2, 4, 6, 3, 5, 7};
        WindowChairs x = sitting(6);
        for (int i = 0; i < 6; i++) {
            for (int j = i + 2; j < 6; j++) {
                x.quarrel(row[i], row[j], 1);
            }
        }
        int left = code;
        for (int i = 5; i > 0; i--) {
            int j = left % (i + 1);
            left /= i + 1;
            if (i != j) {
                x.change(2 + i, 2 + j);
            }
        }
        return x;
    }

    private static void bestOfMore() {
        Edge.refused("19: seven sit", () -> sitting(7), x -> x.best(), Due.SIZE);
        Edge.refused("19: eight sit", () -> sitting(8), x -> x.best(), Due.SIZE);
        Edge.refused("19: eight sit, full", Edge::full, x -> x.best(), Due.SIZE);
    }

    private static void bestAmongThoseChairs() {
        WindowChairs x = Due.with(0, 3);
        x.sit(0, 5);
        x.sit(1, 6);
        x.chair(6, 0, 9);
        Due.due("19: the best chair, 0, is empty and stays so", x.best(), 10000 + 8 + 1 - 1);
        x.sit(1, 0);
        x.sit(0, 7);
        Due.due("19: the first and the last", x.best(), 10000 + 14 - 1);
    }

    private static void bestOfThoseThatSit() {
        WindowChairs x = Due.with(2, 0, 0);
        x.sit(1, 3);
        x.sit(2, 4);
        Due.due("19: a talker, who stands, would sit better", x.best(), 10006);
        x.sit(0, 5);
        Due.due("19: three sit, the talker between", x.best(), 10000 + 2 + 2 + 5 + 1 + 1 + 4);
        x.sit(0, -1);
        Due.due("19: it stands again", x.best(), 10006);
    }

    /** Made up, 0 moves beside 1 in the sun; else they stay apart. At hour 5: on 30 hours it has moved so, on 29 not yet. */
    private static WindowChairs sunMends() {
        WindowChairs x = new WindowChairs();
        x.hours(5);
        x.person(0);
        x.person(3);
        int[][] views = {{0, 11}, {6, 8}, {7, 10}};
        for (int[] v : views) {
            x.chair(v[0], 0, v[1]);
            x.chair(v[0], 1, 0);
        }
        x.sit(0, 0);
        x.sit(1, 7);
        x.quarrel(0, 1, 1);
        return x;
    }

    private static void mendHours() {
        Edge.range("20: n", EdgeBestTest::oddsBeside, (x, n) -> x.mend(n), Edge.end(0, 1), Edge.end(30, 1));
        Edge.asked("20: on 30", EdgeBestTest::sunMends, x -> x.mend(30), 1);
        Edge.refused("20: on 29", EdgeBestTest::sunMends, x -> x.mend(29), Due.NONE);
    }

    private static WindowChairs oddsBeside() {
        WindowChairs x = Due.with(0, 0);
        x.sit(0, 3);
        x.sit(1, 4);
        x.quarrel(0, 1, 1);
        return x;
    }

    private static void mendNone() {
        Edge.refused("20: nobody there", WindowChairs::new, x -> x.mend(0), Due.NONE);
        Edge.refused("20: one there", () -> Due.with(0), x -> x.mend(30), Due.NONE);
        Edge.refused("20: nobody quarrels", Edge::seated, x -> x.mend(0), Due.NONE);
        Edge.refused("20: those who do stand", () -> {
            WindowChairs x = Due.with(0, 0);
            x.quarrel(0, 1, 1);
            return x;
        }, x -> x.mend(0), Due.NONE);
    }

    private static void mendMoreThanAsItIs() {
        WindowChairs x = Due.with(3, 5, 0, 0);
        for (int p = 0; p < 4; p++) {
            x.sit(p, p);
        }
        x.quarrel(0, 1, 1);
        Due.due("20: as much is not more", x.mend(0), Due.NONE);
        x.quarrel(2, 0, 1);
        Due.due("20: as much is not more, not beside", x.mend(0), Due.NONE);
        x.quarrel(1, 2, 1);
        Due.due("20: more", x.mend(0), 12);
        x.quarrel(2, 3, 1);
        Due.due("20: most", x.mend(0), 23);
    }

    private static void mendTheLeast() {
        WindowChairs x = Edge.seated();
        for (int p = 7; p > 0; p--) {
            x.quarrel(p, p - 1, 1);
            Due.due("20: of " + (8 - p) + " that are the same", x.mend(0), 10 * (p - 1) + p);
        }
        Due.due("20: the first two", x.mend(0), 1);
        x.quarrel(0, 1, 0);
        Due.due("20: the next two", x.mend(0), 12);
        // 7 beside 0: the lesser is told first wherever they sit.
        WindowChairs y = Edge.seated();
        y.change(1, 7);
        y.quarrel(7, 0, 1);
        Due.due("20: 10 times the lesser", y.mend(0), 7);
        y.quarrel(7, 2, 1);
        Due.due("20: 07 ahead of 27", y.mend(0), 7);
        y.quarrel(7, 0, 0);
        Due.due("20: 27", y.mend(0), 27);
        // 16 is less than 23, by the lesser one first.
        WindowChairs z = Edge.seated();
        z.change(0, 6);
        z.quarrel(2, 3, 1);
        z.quarrel(1, 6, 1);
        Due.due("20: 16 ahead of 23", z.mend(0), 16);
    }

    private static void mendBeyondBeforeNone() {
        Edge.beyond("20: n, nobody there", WindowChairs::new, (x, n) -> x.mend(n), -1, 31);
    }

    /** By THE TROLLEY, of VIEW 12, at hour 4: in the sun, on 30 hours, a SLEEPER sits there best, on 29 a TALKER. */
    private static WindowChairs sunKinds() {
        WindowChairs x = new WindowChairs();
        x.hours(4);
        x.person(0);
        x.chair(0, 0, 3);
        x.chair(7, 0, 12);
        x.chair(7, 1, 0);
        x.sit(0, 7);
        return x;
    }

    private static void kindRanges() {
        Edge.range("21: n", EdgeBestTest::sunKinds, (x, n) -> x.kind(0, n), Edge.end(0, 2), Edge.end(30, 5));
        Edge.asked("21: on 29", EdgeBestTest::sunKinds, x -> x.kind(0, 29), 2);
        Edge.range("21: person", Edge::some, (x, p) -> x.kind(p, 0), Edge.end(0, 3), Edge.end(3, 2));
        Edge.range("21: person of eight", Edge::seated, (x, p) -> x.kind(p, 0), Edge.end(0, 2), Edge.end(7, 2));
        Edge.beyond("21: nobody there", WindowChairs::new, (x, p) -> x.kind(p, 0), -1, 0);
    }

    private static void kindTheLeast() {
        // In chair 4 alone, view 0, draught 0: all 0 but the talker, 3; a quarrel either side brings it to the deaf, 0.
        WindowChairs x = Due.with(0, 2, 2);
        x.chair(4, 0, 0);
        x.chair(4, 1, 0);
        x.sit(0, 4);
        Due.due("21: a talker", x.kind(0, 0), 2);
        x.sit(1, 3);
        x.quarrel(0, 1, 1);
        Due.due("21: deaf, ahead of a sleeper", x.kind(0, 0), 3);
        // By the trolley, of view 6: a guest likes it 6, a talker and a sleeper 9.
        WindowChairs y = Due.with(5, 0);
        y.chair(7, 0, 6);
        y.chair(7, 1, 0);
        y.sit(0, 7);
        Due.due("21: talker and sleeper are the same", y.kind(0, 0), 2);
        y.sit(1, 6);
        Due.due("21: a talker by 2", y.kind(0, 0), 2);
        y.quarrel(0, 1, 1);
        Due.due("21: the last", y.kind(0, 0), 5);
        y.quarrel(0, 1, 0);
        y.sit(1, -1);
        y.set(0, 2, 7);
        Due.due("21: a queen", y.kind(0, 0), 4);
        y.set(0, 1, 99);
        y.chair(7, 1, 9);
        Due.due("21: still a queen", y.kind(0, 0), 4);
    }

    private static void kindStanding() {
        for (int k = 0; k < 6; k++) {
            int kind = k;
            Edge.asked("21: it stands, kind " + k, () -> Due.with(kind), x -> x.kind(0, 0), 0);
        }
        Edge.asked("21: an hour on it sits", () -> Due.with(4), x -> x.kind(0, 1), 2);
    }

    /** At hour 4: a queen's claim of VIEW 13 is best, but in the sun, on 30 hours, that of VIEW 10. */
    private static WindowChairs sunClaims() {
        WindowChairs x = new WindowChairs();
        x.hours(4);
        x.person(4);
        x.chair(0, 0, 3);
        x.chair(7, 0, 10);
        x.chair(7, 1, 0);
        x.chair(2, 0, 13);
        x.chair(2, 1, 0);
        x.sit(0, 2);
        return x;
    }

    private static void claimRanges() {
        Edge.range("22: n", EdgeBestTest::sunClaims, (x, n) -> x.claim(0, n), Edge.end(0, 3), Edge.end(30, 8));
        Edge.asked("22: on 29", EdgeBestTest::sunClaims, x -> x.claim(0, 29), 3);
        Edge.range("22: person", Edge::some, (x, p) -> x.claim(p, 0), Edge.end(0, 2), Edge.end(3, 0));
        Edge.range("22: person of eight", Edge::seated, (x, p) -> x.claim(p, 0), Edge.end(0, 0), Edge.end(7, 0));
        Edge.beyond("22: nobody there", WindowChairs::new, (x, p) -> x.claim(p, 0), -1, 0);
        for (int c = 0; c < 8; c++) {
            WindowChairs x = Due.with(4);
            x.sit(0, c);
            Due.due("22: where she sits, " + c, x.claim(0, 0), 1 + c);
        }
    }

    private static void claimTheLeast() {
        for (int k = 0; k < 6; k++) {
            WindowChairs x = Due.with(k);
            x.sit(0, 5);
            x.set(0, 2, 5);
            Due.due("22: none is as good, kind " + k, x.claim(0, 0), k == 4 ? 6 : 0);
            x.set(0, 1, 3);
            Due.due("22: none is as good, kind " + k + ", 3 years", x.claim(0, 0), k == 4 ? 6 : 0);
            x.set(0, 1, 4);
            Due.due("22: 4 years, kind " + k, x.claim(0, 0), k == 4 || k == 1 ? 6 : 0);
        }
        WindowChairs y = Due.with(4);
        y.chair(0, 0, 3);
        Due.due("22: of eight chairs that are the same", y.claim(0, 1), 1);
        y.chair(0, 0, 2);
        Due.due("22: of seven", y.claim(0, 1), 2);
    }

    private static void claimStanding() {
        Edge.asked("22: it stands", Edge::some, x -> x.claim(1, 0), 0);
        Edge.asked("22: an hour on it sits", () -> Due.with(4), x -> x.claim(0, 1), 1);
    }

    /** At hour 5 an old one sits in its claim of VIEW 11; the sun, on 30 hours, moves it to VIEW 10 unless it is 12. */
    private static WindowChairs sunYears() {
        WindowChairs x = new WindowChairs();
        x.hours(5);
        x.person(1);
        x.chair(0, 0, 3);
        x.chair(7, 0, 11);
        x.chair(7, 1, 0);
        x.chair(3, 0, 10);
        x.chair(3, 1, 0);
        x.set(0, 2, 7);
        x.set(0, 1, 50);
        x.sit(0, 7);
        return x;
    }

    private static void yearsRanges() {
        Edge.range("23: n", EdgeBestTest::sunYears, (x, n) -> x.years(0, 7, n), Edge.end(1, 0), Edge.end(30, 12));
        Edge.asked("23: on 29", EdgeBestTest::sunYears, x -> x.years(0, 7, 29), 0);
        Edge.refused("23: on 29, elsewhere", EdgeBestTest::sunYears, x -> x.years(0, 3, 29), Due.NONE);
        Edge.asked("23: on 30, elsewhere", EdgeBestTest::sunYears, x -> x.years(0, 3, 30), 0);
        Edge.range("23: chair", Edge::seated, (x, c) -> x.years(c < 4 ? 0 : 7, c, 1), Edge.end(0, 0), Edge.end(7, 0));
        Edge.range("23: person", Edge::seated, (x, p) -> x.years(p, p < 4 ? 0 : 7, 1), Edge.end(0, 0), Edge.end(7, 0));
        Edge.beyond("23: nobody there", WindowChairs::new, (x, p) -> x.years(p, 0, 1), -1, 0);
    }

    /** An old one in a good CHAIR claims CHAIR 0, where another one sits who gives it up from some YEARS on. */
    private static WindowChairs oldClaims(int view, int kind, int itsYears, int odds) {
        WindowChairs x = Due.with(1, kind, 0);
        x.set(0, 2, 0);
        x.set(0, 1, 99);
        x.set(1, 1, itsYears);
        x.sit(0, 4);
        x.chair(4, 0, 20);
        x.chair(4, 1, 0);
        x.sit(1, 0);
        x.chair(0, 0, view);
        x.sit(2, 1);
        x.quarrel(0, 2, odds);
        return x;
    }

    private static void yearsTheLeast() {
        Due.due("23: with none", oldClaims(20, 3, 0, 0).years(0, 0, 1), 0);
        Due.due("23: a guest's", oldClaims(9, 0, 0, 0).years(0, 0, 1), 32);
        Due.due("23: an old one's of 99", oldClaims(9, 1, 99, 0).years(0, 0, 1), 68);
        // A quarrel is 7 less: 8, 9 and 7 fourths are wanted, which is 96. A talker likes it 3 more, minds a neighbour 1 more.
        Due.due("23: the last fourth", oldClaims(9, 1, 99, 1).years(0, 0, 1), 96);
        Due.due("23: a talker's, beside a quarrel", oldClaims(9, 2, 99, 1).years(0, 0, 1), 76);
        for (int least = 0; least < 100; least += 4) {
            WindowChairs x = oldClaims(9, 1, 99, 1);
            x.set(0, 1, least);
            Due.due("23: with " + least, x.on(0, 1, 0), least == 96 ? 0 : 4);
        }
        // It gives up its chair till it is 30: then it stays.
        WindowChairs y = Due.with(1, 1);
        y.sit(0, 0);
        y.sit(1, 3);
        y.chair(3, 0, 5);
        y.set(1, 2, 0);
        y.set(1, 1, 40);
        Due.due("23: by tenths", y.years(0, 0, 1), 30);
        y.set(1, 1, 64);
        Due.due("23: by tenths, the last", y.years(0, 0, 1), 90);
        y.set(1, 1, 68);
        Due.due("23: by tenths, too old", y.years(0, 0, 1), Due.NONE);
    }

    private static void yearsNone() {
        Edge.refused("23: a queen's", () -> oldClaims(9, 4, 0, 0), x -> x.years(0, 0, 30), Due.NONE);
        Edge.refused("23: nobody goes there", Edge::some, x -> x.years(3, 5, 30), Due.NONE);
    }

    private static void yearsBeyondBeforeNone() {
        Edge.beyond("23: no such one", Edge::some, (x, p) -> x.years(p, 5, 30), -1, 4);
        Edge.beyond("23: no such chair", Edge::some, (x, c) -> x.years(3, c, 30), -1, 8);
        Edge.beyond("23: no such n", Edge::some, (x, n) -> x.years(3, 5, n), 0, 31);
    }

    /** 1 has 59 hours more of GAP than the sleeper, who comes to THE TROLLEY now. */
    private static WindowChairs gaps() {
        WindowChairs x = Due.with(0, 0, 5);
        x.chair(0, 0, 3);
        x.set(1, 4, 59);
        return x;
    }

    private static void alwaysHours() {
        Edge.range("24: n", EdgeBestTest::gaps, (x, n) -> x.always(n), Edge.end(0, 1), Edge.end(60, 2));
        Edge.asked("24: on 59", EdgeBestTest::gaps, x -> x.always(59), 1);
    }

    private static void alwaysTheLeast() {
        WindowChairs x = Due.with(0, 0, 0, 0, 0, 0, 0, 0);
        Due.due("24: nobody has any", x.always(0), 0);
        for (int p = 7; p >= 0; p--) {
            x.set(p, 4, 9999);
            Due.due("24: from " + p + " on", x.always(0), p);
        }
        // Held to 9999, 7 can't pass 0, who has as much.
        WindowChairs y = Edge.seated();
        y.set(0, 4, 9999);
        y.set(7, 4, 9998);
        Due.due("24: on 0", y.always(0), 0);
        Due.due("24: held", y.always(60), 0);
        y.set(0, 4, 9998);
        Due.due("24: one more", y.always(1), 7);
    }

    private static void alwaysNone() {
        Edge.refused("24: nobody is there", WindowChairs::new, x -> x.always(0), Due.NONE);
        Edge.refused("24: nobody is there", WindowChairs::new, x -> x.always(60), Due.NONE);
        Edge.beyond("24: n, nobody is there", WindowChairs::new, (x, n) -> x.always(n), -1, 61);
        Edge.asked("24: one is", () -> Due.with(0), x -> x.always(0), 0);
    }

    private static void besideRanges() {
        Edge.range("25: person", Edge::some, (x, p) -> x.beside(p), Edge.end(0, 2), Edge.end(3, 0));
        Edge.range("25: person of eight", Edge::seated, (x, p) -> x.beside(p), Edge.end(0, 1), Edge.end(7, 6));
        Edge.beyond("25: nobody there", WindowChairs::new, (x, p) -> x.beside(p), -1, 0);
    }

    private static void besideTheLeast() {
        // All of 1, 2, 3 have an empty chair beside them of the same worth; 0 stands.
        WindowChairs x = Due.with(3, 0, 0, 0);
        x.chair(0, 0, 3);
        x.sit(3, 0);
        x.sit(2, 3);
        x.sit(1, 7);
        Due.due("25: of three", x.beside(0), 1);
        x.chair(6, 0, 0);
        Due.due("25: of two", x.beside(0), 2);
        x.chair(1, 0, 5);
        Due.due("25: the last", x.beside(0), 3);
        // Between two: the chair is beside either.
        WindowChairs y = Due.with(3, 0, 0);
        y.sit(2, 3);
        y.sit(1, 5);
        y.chair(4, 0, 9);
        Due.due("25: between two", y.beside(0), 1);
    }

    private static void besideItsOwn() {
        WindowChairs x = Edge.seated();
        Due.due("25: its own alone is empty", x.beside(3), 2);
        x.sit(2, -1);
        x.chair(2, 0, 20);
        Due.due("25: the one beside it", x.beside(3), 1);
        WindowChairs y = Due.with(3, 0, 0);
        y.sit(0, 3);
        y.sit(2, 2);
        y.sit(1, 6);
        y.chair(3, 0, 20);
        Due.due("25: where it sits", y.beside(0), 2);
        Edge.asked("25: changes nothing", Edge::some, z -> z.beside(1), 0);
    }

    private static void besideNone() {
        Edge.refused("25: one there", () -> Due.with(0), x -> x.beside(0), Due.NONE);
        Edge.refused("25: nobody sits", () -> Due.with(0, 0), x -> x.beside(0), Due.NONE);
        Edge.refused("25: it alone sits", () -> {
            WindowChairs x = Due.with(0, 0);
            x.sit(0, 3);
            return x;
        }, x -> x.beside(0), Due.NONE);
        Edge.beyond("25: BEYOND ahead of NONE", () -> Due.with(0, 0), (x, p) -> x.beside(p), -1, 2);
        for (int c = 0; c < 8; c++) {
            WindowChairs x = Due.with(0, 0);
            x.sit(1, c);
            x.quarrel(0, 1, 1);
            Due.due("25: beside him in " + c, x.beside(0), 1);
        }
    }
}
