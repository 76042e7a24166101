/** Promises 1 to 3: their boundary cases, sentence by sentence. */
final class EdgeChairsTest {
    public static void main(String[] args) {
        nobodyThere();
        tapeIsEmpty();
        noImageIsKept();
        sheetsAreMissing();
        chairOfChair();
        chairWhat();
        chairView();
        chairDraught();
        chairChangesOneThing();
        chairOfRanges();
        chairOfNobody();
        Due.end();
    }

    private static void nobodyThere() {
        Edge.asked("1: people", WindowChairs::new, x -> x.count(0), 0);
        Edge.refused("1: nobody there", WindowChairs::new, x -> x.of(0, 0), Due.BEYOND);
        Due.due("1: the first is 0", new WindowChairs().person(0), 0);
    }

    private static void tapeIsEmpty() {
        Edge.asked("1: bytes", WindowChairs::new, x -> x.count(1), 0);
        Edge.asked("1: wiped", WindowChairs::new, x -> x.wipe(), 0);
        Edge.asked("1: no text", WindowChairs::new, x -> x.room(), -1);
    }

    private static void noImageIsKept() {
        Edge.refused("1: nothing kept", WindowChairs::new, x -> x.undo(), Due.NONE);
        Edge.asked("1: nothing torn", WindowChairs::new, x -> x.tear(), 0);
    }

    private static void sheetsAreMissing() {
        for (int s = 0; s < 4; s++) {
            int sheet = s;
            Edge.refused("1: sheet " + s, WindowChairs::new, x -> x.lays(sheet), Due.MISSING);
        }
    }

    private static void chairOfChair() {
        Edge.range("2: chair, view", Edge::some, (x, c) -> x.chair(c, 0, 4), Edge.end(0, 15), Edge.end(7, 3));
        Edge.range("2: chair, draught", Edge::some, (x, c) -> x.chair(c, 1, 4), Edge.end(0, 1), Edge.end(7, 1));
        Edge.range("2: chair, nobody there", WindowChairs::new, (x, c) -> x.chair(c, 0, 4), Edge.end(0, 15), Edge.end(7, 3));
    }

    private static void chairWhat() {
        Edge.range("2: what", Edge::some, (x, what) -> x.chair(6, what, 4), Edge.end(0, 3), Edge.end(1, 8));
        Edge.refused("2: who sits there can't be put so", Edge::some, x -> x.chair(6, 2, -1), Due.BEYOND);
    }

    private static void chairView() {
        Edge.range("2: view", Edge::some, (x, v) -> x.chair(3, 0, v), Edge.end(0, 5), Edge.end(20, 5));
        Edge.becomes("2: view", Edge::some, (x, v) -> x.chair(3, 0, v), x -> x.chairOf(3, 0), 0, 20);
        for (int c = 0; c < 8; c++) {
            int chair = c;
            Edge.beyond("2: view of chair " + c, WindowChairs::new, (x, v) -> x.chair(chair, 0, v), -1, 21);
        }
    }

    private static void chairDraught() {
        Edge.range("2: draught", Edge::some, (x, v) -> x.chair(6, 1, v), Edge.end(0, 8), Edge.end(9, 8));
        Edge.becomes("2: draught", Edge::some, (x, v) -> x.chair(6, 1, v), x -> x.chairOf(6, 1), 0, 9);
        for (int c = 0; c < 8; c++) {
            int chair = c;
            Edge.beyond("2: draught of chair " + c, WindowChairs::new, (x, v) -> x.chair(chair, 1, v), -1, 10, 20);
        }
    }

    private static void chairChangesOneThing() {
        WindowChairs x = new WindowChairs();
        x.chair(0, 0, 20);
        x.chair(7, 1, 9);
        for (int c = 0; c < 8; c++) {
            Due.due("2: view " + c, x.chairOf(c, 0), c == 0 ? 20 : 3);
            Due.due("2: draught " + c, x.chairOf(c, 1), c == 7 ? 9 : 1);
        }
        Due.due("2: as it is already", x.chair(0, 0, 20), 20);
        Due.due("2: no finding", x.status(-1), 0);
    }

    private static void chairOfRanges() {
        Edge.range("3: chair", Edge::some, (x, c) -> x.chairOf(c, 0), Edge.end(0, 15), Edge.end(7, 3));
        Edge.range("3: chair, nobody there", WindowChairs::new, (x, c) -> x.chairOf(c, 2), Edge.end(0, -1), Edge.end(7, -1));
        Edge.range("3: what", Edge::some, (x, what) -> x.chairOf(1, what), Edge.end(0, 3), Edge.end(2, 0));
        Edge.asked("3: changes nothing", Edge::some, x -> x.chairOf(6, 1), 8);
    }

    private static void chairOfNobody() {
        WindowChairs x = Edge.full();
        for (int c = 0; c < 8; c++) {
            int p = x.chairOf(c, 2);
            Due.due("3: who sits in " + c, x.of(p, 5), c);
            x.sit(p, -1);
            Due.due("3: nobody in " + c, x.chairOf(c, 2), -1);
        }
    }
}
