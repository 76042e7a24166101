/** Promises 35 to 39. */
final class ImagesTest {
    public static void main(String[] args) {
        imageAndUndo();
        latest();
        tear();
        notKept();
        afterUndo();
        count();
        status();
        everyFinding();
        Due.end();
    }

    private static WindowChairs some() {
        WindowChairs x = Due.with(1, 4, 5);
        x.set(0, 1, 44);
        x.set(1, 2, 0);
        x.set(2, 4, 17);
        x.quarrel(0, 2, 1);
        x.chair(3, 0, 12);
        x.chair(4, 1, 8);
        x.sit(2, 6);
        x.hours(7);
        return x;
    }

    private static void stir(WindowChairs x) {
        x.turn(0, 3);
        x.set(0, 1, 1);
        x.set(1, 2, 5);
        x.set(2, 4, 3);
        x.quarrel(0, 2, 0);
        x.quarrel(0, 1, 1);
        x.chair(3, 0, 0);
        x.chair(4, 1, 0);
        x.sit(2, -1);
        x.person(2);
        x.sit(3, 5);
        x.quarrel(3, 0, 1);
        x.hours(9);
    }

    private static void imageAndUndo() {
        WindowChairs x = some();
        String was = Due.look(x);
        Due.due("35: image", x.image(), 1);
        Due.due("35: changes nothing", Due.look(x), was);
        stir(x);
        Due.due("36: people", x.undo(), 3);
        Due.due("36: as it was", Due.look(x), was);
        stir(x);
        Due.due("36: it stays", x.undo(), 3);
        Due.due("36: as it was", Due.look(x), was);
        Due.due("36: as it goes on", x.peace(30), some().peace(30));
    }

    private static void latest() {
        WindowChairs x = new WindowChairs();
        Due.due("36: none", x.undo(), Due.NONE);
        x.image();
        x.person(0);
        x.person(1);
        Due.due("35: again", x.image(), 1);
        x.person(2);
        Due.due("36: the latest", x.undo(), 2);
        Due.due("36: the latest", x.undo(), 2);
    }

    private static void tear() {
        WindowChairs x = new WindowChairs();
        Due.due("37: nothing was", x.tear(), 0);
        x.image();
        x.person(0);
        x.image();
        Due.due("37: something was", x.tear(), 1);
        Due.due("37: nothing was", x.tear(), 0);
        Due.due("37: none", x.undo(), Due.NONE);
        Due.due("37: stays as it is", x.count(0), 1);
        x.image();
        Due.due("37: anew", x.undo(), 1);
    }

    /** THE TAPE, SHEETS and findings are no part of an image. */
    private static void notKept() {
        WindowChairs x = new WindowChairs();
        x.sheet(0, 8, 2);
        x.write(0, 1, 3);
        Due.tape(x, "old");
        x.person(9);
        x.image();
        x.write(0, 1, 4);
        x.sheet(1, 16, 1);
        Due.tape(x, ";deaf");
        x.person(9);
        Due.due("36: people", x.undo(), 0);
        Due.due("36: sheet stays", x.write(0, 1, 0), 4);
        Due.due("36: sheet stays", x.write(1, 0, 0), 0);
        Due.due("36: tape stays", x.count(1), 8);
        Due.due("36: tape stays", x.room(), 2);
        Due.due("36: findings stay", x.status(0), 2);
    }

    /** Who comes after undo() is new, whoever had the number. */
    private static void afterUndo() {
        WindowChairs x = Due.with(0);
        x.image();
        x.person(4);
        x.set(1, 1, 50);
        x.set(1, 2, 3);
        x.set(1, 4, 60);
        x.quarrel(0, 1, 1);
        x.sit(1, 2);
        x.undo();
        Due.due("36: gone", x.of(1, 0), Due.BEYOND);
        Due.due("36: chair", x.chairOf(2, 2), -1);
        Due.due("36: quarrel", x.of(0, 3), 0);
        x.person(0);
        Due.due("36: new", x.of(1, 1) + x.of(1, 3) + x.of(1, 4), 0);
        Due.due("36: new", x.of(1, 2) * 10 + x.of(1, 5), -11);
    }

    private static void count() {
        WindowChairs x = Due.with(0, 0, 0, 0);
        x.sit(1, 1);
        x.sit(3, 4);
        x.quarrel(0, 1, 1);
        x.quarrel(1, 2, 1);
        x.quarrel(2, 3, 1);
        Due.tape(x, "peace");
        Due.due("38: people", x.count(0), 4);
        Due.due("38: bytes", x.count(1), 5);
        Due.due("38: sit", x.count(2), 2);
        Due.due("38: pairs", x.count(3), 3);
        WindowChairs all = Due.with(0, 1, 2, 3, 4, 5, 0, 1);
        all.hours(1);
        for (int p = 0; p < 8; p++) {
            for (int q = 0; q < p; q++) {
                all.quarrel(p, q, 1);
            }
        }
        Due.due("38: all sit", all.count(2), 8);
        Due.due("38: all pairs", all.count(3), 28);
        Due.due("38: beyond", x.count(-1), Due.BEYOND);
        Due.due("38: beyond", x.count(4), Due.BEYOND);
        for (int far : Due.FAR) {
            Due.due("38: beyond", x.count(far), Due.BEYOND);
        }
    }

    private static void status() {
        WindowChairs x = new WindowChairs();
        for (int which = -1; which < 7; which++) {
            Due.due("39: none yet", x.status(which), 0);
        }
        Due.due("39: beyond", x.status(7), Due.BEYOND);
        Due.due("39: counted from then on", x.status(0), 1);
        Due.due("39: beyond", x.status(-2), Due.BEYOND);
        Due.due("39: all", x.status(-1), 2);
        for (int far : Due.FAR) {
            Due.due("39: beyond", x.status(far), Due.BEYOND);
        }
        Due.due("39: all", x.status(-1), 8);
        x.image();
        x.person(-1);
        x.undo();
        Due.due("39: undo takes none back", x.status(0), 9);
        x.tear();
        Due.due("39: nor tear", x.status(0), 9);
    }

    private static void everyFinding() {
        WindowChairs x = Due.with(0, 0, 0, 0, 0, 0, 0, 0);
        x.person(6);
        x.person(0);
        x.person(0);
        x.as(0, 1);
        x.as(0, 2);
        x.as(0, 3);
        x.undo();
        x.undo();
        x.undo();
        x.undo();
        x.sit(0, 0);
        for (int i = 0; i < 5; i++) {
            x.sit(1, 0);
        }
        for (int i = 0; i < 6; i++) {
            x.write(0, 0, 0);
        }
        for (int i = 0; i < 7; i++) {
            x.sheet(0, 8, -1);
        }
        for (int which = 0; which < 7; which++) {
            Due.due("39: which " + which, x.status(which), which + 1);
        }
        Due.due("39: all", x.status(-1), 28);
        Due.told(x, "nobody");
        Due.due("39: a fault is none", x.status(-1), 28);
    }
}
