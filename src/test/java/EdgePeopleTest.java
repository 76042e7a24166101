/** Promises 4 to 12: their boundary cases, sentence by sentence. */
final class EdgePeopleTest {
    public static void main(String[] args) {
        personKind();
        personFull();
        personBeyondBeforeFull();
        ofWhom();
        ofWhat();
        setWhom();
        setWhat();
        setYears();
        setClaim();
        setGap();
        turnRanges();
        asBeyond();
        asKind();
        quarrelRanges();
        quarrelWithItself();
        sitRanges();
        sitState();
        sitBeyondBeforeState();
        changeRanges();
        changeStanding();
        wellRanges();
        wellWereWhoSitsThereGone();
        Due.end();
    }

    private static void personKind() {
        Edge.range("4: kind", Edge::some, (x, k) -> x.person(k), Edge.end(0, 4), Edge.end(5, 4));
        Edge.range("4: kind, nobody there", WindowChairs::new, (x, k) -> x.person(k), Edge.end(0, 0), Edge.end(5, 0));
    }

    private static WindowChairs seven() {
        return Due.with(0, 1, 2, 3, 4, 5, 0);
    }

    private static WindowChairs eight() {
        return Due.with(0, 1, 2, 3, 4, 5, 0, 1);
    }

    private static void personFull() {
        Due.due("4: the eighth", seven().person(3), 7);
        for (int k = 0; k < 6; k++) {
            int kind = k;
            Edge.refused("4: a ninth", EdgePeopleTest::eight, x -> x.person(kind), Due.FULL);
        }
        Edge.refused("4: a ninth, all sit", Edge::full, x -> x.person(0), Due.FULL);
    }

    private static void personBeyondBeforeFull() {
        Edge.beyond("4: a ninth, kind", Edge::full, (x, k) -> x.person(k), -1, 6, Integer.MIN_VALUE, Integer.MAX_VALUE);
    }

    private static void ofWhom() {
        Edge.range("5: person", Edge::some, (x, p) -> x.of(p, 0), Edge.end(0, 1), Edge.end(3, 5));
        Edge.range("5: person of eight", Edge::full, (x, p) -> x.of(p, 0), Edge.end(0, 0), Edge.end(7, 1));
        Edge.range("5: person of one", () -> Due.with(4), (x, p) -> x.of(p, 0), Edge.end(0, 4), Edge.end(0, 4));
        Edge.beyond("5: nobody there", WindowChairs::new, (x, p) -> x.of(p, 0), -1, 0, 1, 7, 8);
    }

    private static void ofWhat() {
        Edge.range("5: what", Edge::some, (x, what) -> x.of(0, what), Edge.end(0, 1), Edge.end(6, 12));
        int[] due = {4, 0, 0, 8, 0, -1, 99};
        for (int what = 0; what < 7; what++) {
            int asked = what;
            Edge.asked("5: what " + what, Edge::some, x -> x.of(1, asked), due[what]);
        }
    }

    private static void setWhom() {
        Edge.range("6: person", Edge::some, (x, p) -> x.set(p, 1, 9), Edge.end(0, 44), Edge.end(3, 0));
        Edge.range("6: person of eight", Edge::full, (x, p) -> x.set(p, 2, 1), Edge.end(0, -1), Edge.end(7, -1));
        Edge.beyond("6: nobody there", WindowChairs::new, (x, p) -> x.set(p, 1, 0), -1, 0, 1);
    }

    private static void setWhat() {
        int[] were = {0, 44, -1, 0, 0};
        for (int what = 1; what < 5; what++) {
            if (what != 3) {
                Due.due("6: what " + what, Edge.some().set(0, what, 5), were[what]);
            }
        }
        Edge.beyond("6: what", Edge::some, (x, what) -> x.set(0, what, 0), -1, 0, 3, 5, 6, 7);
        Edge.beyond("6: what, far", Edge::some, (x, what) -> x.set(0, what, 0), Due.FAR);
    }

    private static void setYears() {
        Edge.range("6: years", Edge::some, (x, v) -> x.set(0, 1, v), Edge.end(0, 44), Edge.end(99, 44));
        Edge.becomes("6: years", Edge::some, (x, v) -> x.set(0, 1, v), x -> x.of(0, 1), 0, 99);
    }

    private static void setClaim() {
        Edge.range("6: claim", Edge::some, (x, v) -> x.set(1, 2, v), Edge.end(-1, 0), Edge.end(7, 0));
        Edge.becomes("6: claim", Edge::some, (x, v) -> x.set(1, 2, v), x -> x.of(1, 2), -1, 0, 7);
    }

    private static void setGap() {
        Edge.range("6: gap", Edge::some, (x, v) -> x.set(2, 4, v), Edge.end(0, 17), Edge.end(9999, 17));
        Edge.becomes("6: gap", Edge::some, (x, v) -> x.set(2, 4, v), x -> x.of(2, 4), 0, 9999);
    }

    private static void turnRanges() {
        Edge.range("7: person", Edge::some, (x, p) -> x.turn(p, 0), Edge.end(0, 1), Edge.end(3, 5));
        Edge.range("7: kind", Edge::some, (x, k) -> x.turn(2, k), Edge.end(0, 2), Edge.end(5, 2));
        Edge.becomes("7: kind", Edge::some, (x, k) -> x.turn(2, k), x -> x.of(2, 0), 0, 1, 2, 3, 4, 5);
        Edge.range("7: person of eight", Edge::full, (x, p) -> x.turn(p, 5), Edge.end(0, 0), Edge.end(7, 1));
        Edge.beyond("7: nobody there", WindowChairs::new, (x, p) -> x.turn(p, 0), -1, 0);
        Edge.asked("7: the kind it is", Edge::some, x -> x.turn(1, 4), 4);
        Edge.asked("7: there and back", Edge::some, x -> x.turn(1, 0) * 10 + x.turn(1, 4), 40);
    }

    private static void asBeyond() {
        Edge.range("8: person", Edge::some, (x, p) -> x.as(p, 0), Edge.end(0, 44), Edge.end(3, 0));
        Edge.range("8: kind", () -> Due.with(5, 5), (x, k) -> x.as(1, k), Edge.end(0, 0), Edge.end(5, 0));
        Edge.beyond("8: nobody there", WindowChairs::new, (x, p) -> x.as(p, 0), -1, 0);
        // A person that isn't there is of no kind at all, and no one is of a kind that isn't.
        Edge.beyond("8: no such one, ahead of KIND", Edge::some, (x, p) -> x.as(p, 4), -1, 4);
        Edge.beyond("8: no such kind, ahead of KIND", Edge::some, (x, k) -> x.as(2, k), -1, 6);
    }

    private static void asKind() {
        // By kind: those of which it is one.
        String[] of = {"0", "01", "02", "03", "014", "035"};
        for (int k = 0; k < 6; k++) {
            int kind = k;
            for (int a = 0; a < 6; a++) {
                int as = a;
                if (of[k].indexOf('0' + a) >= 0) {
                    Edge.asked("8: kind " + k + " as " + a, () -> Due.with(0, kind), x -> x.as(1, as), 0);
                } else {
                    Edge.refused("8: kind " + k + " as " + a, () -> Due.with(0, kind), x -> x.as(1, as), Due.KIND);
                }
            }
        }
        WindowChairs x = Due.with(4);
        x.set(0, 1, 99);
        Due.due("8: years", x.as(0, 1), 99);
    }

    private static void quarrelRanges() {
        Edge.range("9: person", Edge::some, (x, p) -> x.quarrel(p, p == 3 ? 1 : 2, 1), Edge.end(0, 1), Edge.end(3, 1));
        Edge.range("9: other", Edge::some, (x, q) -> x.quarrel(q == 3 ? 1 : 2, q, 1), Edge.end(0, 1), Edge.end(3, 1));
        Edge.range("9: v", Edge::some, (x, v) -> x.quarrel(0, 2, v), Edge.end(0, 1), Edge.end(1, 1));
        Edge.range("9: v, no quarrel", Edge::some, (x, v) -> x.quarrel(2, 3, v), Edge.end(0, 0), Edge.end(1, 0));
        Edge.becomes("9: a quarrel", Edge::some, (x, v) -> x.quarrel(2, 3, v), x -> x.of(3, 3) >> 2 & 1, 0, 1);
        Edge.becomes("9: a quarrel", Edge::some, (x, v) -> x.quarrel(2, 3, v), x -> x.of(2, 3) >> 3 & 1, 0, 1);
        Edge.range("9: person of eight", Edge::full, (x, p) -> x.quarrel(p, 3, 0), Edge.end(0, 1), Edge.end(7, 1));
        Edge.refused("9: nobody there", WindowChairs::new, x -> x.quarrel(0, 1, 1), Due.BEYOND);
        Edge.refused("9: one there", () -> Due.with(0), x -> x.quarrel(0, 1, 1), Due.BEYOND);
        Edge.asked("9: quarrel already", Edge::some, x -> x.quarrel(2, 0, 1), 1);
        Edge.asked("9: no quarrel to make up", Edge::some, x -> x.quarrel(2, 3, 0), 0);
    }

    private static void quarrelWithItself() {
        for (int p = -1; p < 5; p++) {
            int one = p;
            Edge.refused("9: one and the same", Edge::some, x -> x.quarrel(one, one, 1), Due.BEYOND);
            Edge.refused("9: one and the same, v 0", Edge::some, x -> x.quarrel(one, one, 0), Due.BEYOND);
        }
    }

    private static void sitRanges() {
        Edge.range("10: person", Edge::some, (x, p) -> x.sit(p, -1), Edge.end(0, 1), Edge.end(3, 7));
        Edge.range("10: chair", () -> Due.with(0), (x, c) -> x.sit(0, c), Edge.end(-1, -1), Edge.end(7, -1));
        Due.due("10: chair till then", Edge.some().sit(2, 6), 2);
        Edge.becomes("10: chair", () -> Due.with(0), (x, c) -> x.sit(0, c), x -> x.of(0, 5), -1, 0, 1, 2, 3, 4, 5, 6, 7);
        Edge.becomes("10: from 2", Edge::some, (x, c) -> x.sit(2, c), x -> x.of(2, 5), -1, 0, 3, 4, 5, 6);
        Edge.beyond("10: nobody there", WindowChairs::new, (x, p) -> x.sit(p, 0), -1, 0);
        WindowChairs x = Edge.some();
        x.sit(2, 0);
        Due.due("10: where it sat is empty", x.chairOf(2, 2), -1);
        Due.due("10: where it sits", x.chairOf(0, 2), 2);
        Due.due("10: those that sit", x.now(3), 13);
    }

    private static void sitState() {
        int[] taken = {1, 2, 7};
        for (int c : taken) {
            Edge.refused("10: another one sits in " + c, Edge::some, x -> x.sit(1, c), Due.STATE);
        }
        Edge.refused("10: another one, from where it sat", Edge::some, x -> x.sit(0, 2), Due.STATE);
        for (int c = 0; c < 8; c++) {
            int chair = c;
            WindowChairs full = Edge.full();
            int its = full.chairOf(c, 2);
            Edge.asked("10: its own, " + c, Edge::full, x -> x.sit(its, chair), c);
            Edge.refused("10: another one's, full, " + c, Edge::full, x -> x.sit((its + 1) % 8, chair), Due.STATE);
        }
        Edge.asked("10: stands already", Edge::some, x -> x.sit(1, -1), -1);
    }

    private static void sitBeyondBeforeState() {
        Edge.beyond("10: no such one, a chair that is taken", Edge::some, (x, p) -> x.sit(p, 1), -1, 4);
        Edge.beyond("10: no such chair, full", Edge::full, (x, c) -> x.sit(0, c), -2, 8);
    }

    private static void changeRanges() {
        Edge.range("11: person", Edge::some, (x, p) -> x.change(p, 1), Edge.end(0, 1), Edge.end(3, 1));
        Edge.range("11: other", Edge::some, (x, q) -> x.change(1, q), Edge.end(0, 1), Edge.end(3, 1));
        Edge.range("11: of eight", Edge::full, (x, p) -> x.change(p, 3), Edge.end(0, 1), Edge.end(7, 1));
        for (int p = -1; p < 5; p++) {
            int one = p;
            Edge.refused("11: one and the same", Edge::some, x -> x.change(one, one), Due.BEYOND);
        }
        Edge.refused("11: nobody there", WindowChairs::new, x -> x.change(0, 1), Due.BEYOND);
        Edge.refused("11: one there", () -> Due.with(0), x -> x.change(0, 1), Due.BEYOND);
        Edge.refused("11: one there", () -> Due.with(0), x -> x.change(1, 0), Due.BEYOND);
    }

    private static void changeStanding() {
        for (int turn = 0; turn < 2; turn++) {
            WindowChairs x = Edge.some();
            Due.due("11: one stands", turn == 0 ? x.change(0, 1) : x.change(1, 0), 1);
            Due.due("11: the other one stands then", x.of(0, 5) * 10 + x.of(1, 5), -9);
            Due.due("11: in the chair", x.chairOf(1, 2), 1);
            Due.due("11: those that sit", x.now(3), 14);
            Due.due("11: chairs that are empty", x.now(5), 121);
        }
        Edge.asked("11: both stand", () -> Due.with(0, 1), x -> x.change(0, 1), 1);
        WindowChairs y = Edge.full();
        y.change(0, 5);
        Due.due("11: the first chair and the last", y.chairOf(0, 2) * 10 + y.chairOf(7, 2), 50);
        Due.due("11: of", y.of(0, 5) * 10 + y.of(5, 5), 70);
    }

    private static void wellRanges() {
        Edge.range("12: person", Edge::some, (x, p) -> x.well(p, 4), Edge.end(0, 1002), Edge.end(3, 999));
        Edge.range("12: chair", Edge::some, (x, c) -> x.well(3, c), Edge.end(0, 1005), Edge.end(7, 1005));
        Edge.beyond("12: nobody there", WindowChairs::new, (x, p) -> x.well(p, 0), -1, 0);
        Edge.beyond("12: standing is no chair", Edge::full, (x, c) -> x.well(0, c), -1);
        Edge.asked("12: changes nothing", Edge::some, x -> x.well(1, 0), 1024 - 1);
    }

    private static void wellWereWhoSitsThereGone() {
        WindowChairs x = Due.with(0, 0, 0);
        x.sit(0, 3);
        x.sit(1, 4);
        x.quarrel(0, 1, 1);
        Due.due("12: he is gone", x.well(0, 4), 1002);
        x.sit(2, 5);
        Due.due("12: he is gone, the next one is not", x.well(0, 4), 1003);
        Due.due("12: he is not gone from beside", x.well(0, 3), 996);
        Due.due("12: nor seen from there", x.well(0, 5), 996);
        // The least and the most that there is: between two quarrels, and a queen of 99 years in her claim.
        WindowChairs least = Due.with(2, 0, 0);
        least.chair(4, 0, 0);
        least.chair(4, 1, 9);
        least.sit(1, 3);
        least.sit(2, 5);
        least.quarrel(0, 1, 1);
        least.quarrel(0, 2, 1);
        Due.due("12: below 1000", least.well(0, 4), 1000 - 6 - 24);
        WindowChairs most = Due.with(4);
        most.chair(4, 0, 20);
        most.chair(4, 1, 0);
        most.set(0, 1, 99);
        most.set(0, 2, 4);
        Due.due("12: above 1000", most.well(0, 4), 1054);
    }
}
