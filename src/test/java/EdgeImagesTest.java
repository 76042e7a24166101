/** Promises 35 to 39: their boundary cases, sentence by sentence. */
final class EdgeImagesTest {
    public static void main(String[] args) {
        imageOfNothing();
        imageOfAll();
        imageNotTheTape();
        undoNone();
        undoTheLatest();
        undoStays();
        undoBringsBackWhoCame();
        tearNothing();
        tearTwice();
        countWhat();
        countEmptyAndFull();
        statusRange();
        statusCountsFromThenOn();
        statusOfEach();
        statusUndoTakesNoneBack();
        Due.end();
    }

    private static void imageOfNothing() {
        WindowChairs x = new WindowChairs();
        Due.due("35: nobody there", x.image(), 1);
        Edge.tapeByFours(x, Edge.TEXT);
        x.person(0);
        x.hours(60);
        Due.due("36: nobody there", x.undo(), 0);
        Due.due("36: as new", Due.look(x), Due.look(new WindowChairs()));
        Due.due("36: not torn by that", x.tear(), 1);
    }

    private static void imageOfAll() {
        WindowChairs x = Edge.full();
        x.set(7, 4, 9999);
        x.set(0, 1, 99);
        x.set(0, 2, 7);
        x.chair(7, 0, 20);
        x.chair(7, 1, 9);
        String was = Due.look(x);
        Due.due("35: eight there", x.image(), 1);
        Due.due("35: changes nothing", Due.look(x), was);
        for (int p = 0; p < 8; p++) {
            x.turn(p, 5 - x.of(p, 0));
            x.set(p, 1, 50);
            x.set(p, 2, 3);
            x.set(p, 4, 5);
            x.sit(p, -1);
            x.chair(p, 0, 8);
            x.chair(p, 1, 7);
            x.quarrel(p, (p + 1) % 8, 0);
        }
        x.hours(1);
        Due.due("36: eight there", x.undo(), 8);
        Due.due("36: all that section 1 tells", Due.look(x), was);
    }

    private static void imageNotTheTape() {
        WindowChairs x = Edge.some();
        x.image();
        x.wipe();
        x.undo();
        Due.due("35: the tape not", x.count(1), 0);
        WindowChairs y = new WindowChairs();
        y.image();
        Edge.tapeByFours(y, "old");
        y.undo();
        Due.due("35: the tape not", y.count(1) * 10 + y.room(), 31);
        // Sheets are told in section 3.
        y.sheet(0, 8, 2);
        y.image();
        y.sheet(0, 16, 3);
        y.sheet(1, 64, 1);
        y.undo();
        Due.due("35: sheets not", y.write(0, 2, 300) + y.write(0, 2, 0) + y.write(1, 0, 0), 300);
    }

    private static void undoNone() {
        Edge.refused("36: new", WindowChairs::new, x -> x.undo(), Due.NONE);
        Edge.refused("36: torn", () -> {
            WindowChairs x = Edge.some();
            x.tear();
            return x;
        }, x -> x.undo(), Due.NONE);
    }

    private static void undoTheLatest() {
        WindowChairs x = new WindowChairs();
        for (int n = 0; n <= 8; n++) {
            x.image();
            Due.due("36: the latest, " + n, x.undo(), n);
            x.person(0);
        }
        Due.due("36: at last", x.undo(), 8);
    }

    private static void undoStays() {
        WindowChairs x = Edge.some();
        for (int i = 0; i < 3; i++) {
            Due.due("36: three", x.undo(), 3);
            Due.due("36: hour", x.now(0), 3);
            x.person(0);
            x.turn(0, 5);
            x.hours(7);
        }
        Due.due("36: what was kept is not what is there", x.count(0), 4);
    }

    private static void undoBringsBackWhoCame() {
        WindowChairs x = Due.with(0);
        x.sit(0, 3);
        x.image();
        x.person(4);
        x.set(1, 1, 99);
        x.set(1, 2, 3);
        x.set(1, 4, 9999);
        x.quarrel(0, 1, 1);
        x.sit(0, -1);
        x.sit(1, 3);
        Due.due("36: one", x.undo(), 1);
        Due.due("36: his chair", x.chairOf(3, 2), 0);
        Edge.beyond("36: who came isn't there", () -> {
            WindowChairs y = Due.with(0);
            y.image();
            y.person(0);
            y.undo();
            return y;
        }, (y, p) -> y.of(p, 0), 1);
        Due.due("36: the number is free", x.person(2), 1);
        Due.due("36: and new", x.of(1, 1) * 1000 + x.of(1, 2) * 100 + x.of(1, 3) * 10 + x.of(1, 4), -100);
        Due.due("36: it stands", x.of(1, 5), -1);
        Due.due("36: full no more", Edge.full().undo(), 8);
    }

    private static void tearNothing() {
        Edge.asked("37: nothing was", WindowChairs::new, x -> x.tear(), 0);
        Due.due("37: something was", Edge.some().tear(), 1);
    }

    private static void tearTwice() {
        WindowChairs x = Edge.some();
        x.image();
        x.image();
        String was = Due.look(x);
        Due.due("37: once", x.tear(), 1);
        Due.due("37: twice", x.tear(), 0);
        Due.due("37: an earlier one is not kept", x.undo(), Due.NONE);
        Due.due("37: all stays", Due.look(x), was);
        x.image();
        Due.due("37: kept anew", x.tear(), 1);
    }

    private static void countWhat() {
        Edge.range("38: what", Edge::some, (x, what) -> x.count(what), Edge.end(0, 4), Edge.end(3, 2));
        Edge.range("38: what, new", WindowChairs::new, (x, what) -> x.count(what), Edge.end(0, 0), Edge.end(3, 0));
        int[] due = {4, 45, 3, 2};
        for (int what = 0; what < 4; what++) {
            int asked = what;
            Edge.asked("38: what " + what, Edge::some, x -> x.count(asked), due[what]);
        }
    }

    private static void countEmptyAndFull() {
        int[] due = {8, 120, 8, 28};
        for (int what = 0; what < 4; what++) {
            int asked = what;
            Edge.asked("38: none, what " + what, WindowChairs::new, x -> x.count(asked), 0);
            Edge.asked("38: all, what " + what, Edge::full, x -> x.count(asked), due[what]);
        }
    }

    private static void statusRange() {
        Edge.range("39: which", Edge::some, (x, which) -> x.status(which), Edge.end(-1, 0), Edge.end(6, 0));
        Edge.range("39: which, new", WindowChairs::new, (x, which) -> x.status(which), Edge.end(-1, 0), Edge.end(6, 0));
    }

    private static void statusCountsFromThenOn() {
        WindowChairs x = new WindowChairs();
        for (int n = 0; n < 5; n++) {
            Due.due("39: all, " + n, x.status(-1), n);
            Due.due("39: BEYOND, " + n, x.status(0), n);
            Due.due("39: another one", x.status(n % 2 == 0 ? 7 : -2), Due.BEYOND);
        }
        Due.due("39: under its own number alone", x.status(1) + x.status(2) + x.status(3) + x.status(4) + x.status(5) + x.status(6), 0);
    }

    private static void statusOfEach() {
        Edge.Call[] acts = {x -> x.person(6), x -> x.person(0), x -> x.as(0, 1), x -> x.years(0, 7, 1), x -> x.sit(0, 1),
            x -> x.lays(3), x -> x.best()};
        for (int which = 0; which < 7; which++) {
            WindowChairs x = Edge.full();
            Due.due("39: the finding", acts[which].on(x), -1000000001 - which);
            for (int w = 0; w < 7; w++) {
                Due.due("39: status " + w + " after " + which, x.status(w), w == which ? 1 : 0);
            }
            Due.due("39: all after " + which, x.status(-1), 1);
        }
        WindowChairs all = Edge.full();
        for (int which = 0; which < 7; which++) {
            for (int n = 0; n <= which; n++) {
                acts[which].on(all);
            }
        }
        for (int which = 0; which < 7; which++) {
            Due.due("39: status " + which, all.status(which), which + 1);
        }
        Due.due("39: all", all.status(-1), 28);
    }

    private static void statusUndoTakesNoneBack() {
        WindowChairs x = new WindowChairs();
        x.person(6);
        x.image();
        x.person(6);
        x.undo();
        Due.due("39: before and after the image", x.status(0), 2);
        x.tear();
        x.undo();
        Due.due("39: undo's own", x.status(3) * 10 + x.status(-1), 13);
    }
}
