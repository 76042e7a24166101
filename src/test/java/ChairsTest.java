/** Promises 1 to 3. */
final class ChairsTest {
    public static void main(String[] args) {
        newObject();
        chair();
        chairBeyond();
        chairOf();
        Due.end();
    }

    private static void newObject() {
        WindowChairs x = new WindowChairs();
        for (int c = 0; c < 8; c++) {
            Due.due("1: view " + c, x.chairOf(c, 0), c == 0 ? 15 : 3);
            Due.due("1: draught " + c, x.chairOf(c, 1), 1);
            Due.due("1: who sits " + c, x.chairOf(c, 2), -1);
        }
        for (int what = 0; what < 4; what++) {
            Due.due("1: count " + what, x.count(what), 0);
        }
        Due.due("1: hour", x.now(0), 0);
        Due.due("1: findings", x.status(-1), 0);
        for (int s = 0; s < 4; s++) {
            Due.due("1: sheet missing", x.write(s, 0, 1), Due.MISSING);
        }
        Due.due("1: nothing kept", x.undo(), Due.NONE);
        Due.due("1: nobody there", x.of(0, 0), Due.BEYOND);
        WindowChairs y = new WindowChairs();
        y.chair(2, 0, 9);
        y.person(1);
        Due.due("1: objects are apart", x.chairOf(2, 0), 3);
        Due.due("1: objects are apart", x.count(0), 0);
    }

    private static void chair() {
        WindowChairs x = new WindowChairs();
        for (int c = 0; c < 8; c++) {
            Due.due("2: view", x.chair(c, 0, 20), c == 0 ? 15 : 3);
            Due.due("2: view", x.chair(c, 0, c), 20);
            Due.due("2: draught", x.chair(c, 1, 9), 1);
            Due.due("2: draught", x.chair(c, 1, 7 - c), 9);
        }
        for (int c = 0; c < 8; c++) {
            Due.due("2: view kept", x.chairOf(c, 0), c);
            Due.due("2: draught kept", x.chairOf(c, 1), 7 - c);
        }
        Due.due("2: view 0", x.chair(5, 0, 0), 5);
        Due.due("2: draught 0", x.chair(5, 1, 0), 2);
    }

    private static void chairBeyond() {
        WindowChairs x = new WindowChairs();
        String was = Due.look(x);
        int[][] wrong = {{-1, 0, 3}, {8, 0, 3}, {0, -1, 3}, {0, 2, 3}, {0, 0, -1}, {0, 0, 21}, {0, 1, -1}, {0, 1, 10}};
        for (int[] w : wrong) {
            Due.due("2: beyond", x.chair(w[0], w[1], w[2]), Due.BEYOND);
        }
        for (int far : Due.FAR) {
            Due.due("2: beyond", x.chair(far, 0, 1), Due.BEYOND);
            Due.due("2: beyond", x.chair(1, far, 1), Due.BEYOND);
            Due.due("2: beyond", x.chair(1, 1, far), Due.BEYOND);
        }
        Due.due("2: changes nothing", Due.look(x), was);
        Due.due("2: counted", x.status(0), 26);
    }

    private static void chairOf() {
        WindowChairs x = Due.with(0, 0);
        x.sit(1, 3);
        Due.due("3: who", x.chairOf(3, 2), 1);
        x.sit(0, 7);
        Due.due("3: who", x.chairOf(7, 2), 0);
        x.sit(1, -1);
        Due.due("3: nobody", x.chairOf(3, 2), -1);
        Due.due("3: beyond", x.chairOf(-1, 0), Due.BEYOND);
        Due.due("3: beyond", x.chairOf(8, 0), Due.BEYOND);
        Due.due("3: beyond", x.chairOf(0, -1), Due.BEYOND);
        Due.due("3: beyond", x.chairOf(0, 3), Due.BEYOND);
        for (int far : Due.FAR) {
            Due.due("3: beyond", x.chairOf(far, 0), Due.BEYOND);
            Due.due("3: beyond", x.chairOf(0, far), Due.BEYOND);
        }
    }
}
