/** The FAULTS of THE TEXT and what room() does with them: their boundary cases; run by EdgeTextTest. */
final class EdgeTextFaults {
    private EdgeTextFaults() {
    }

    static void all() {
        theFirstOfSeveral();
        endsTooEarly();
        aNinth();
        aFaultChangesTheTapeAlone();
        aFaultIsNoFinding();
        whatThereIsStays();
        cutAnywhere();
        anotherByteAnywhere();
    }

    private static void fault(String text, int place) {
        WindowChairs x = Due.with(0, 0);
        x.sit(0, 4);
        Due.due("28: fault in '" + text + "'", Due.told(x, text), -1 - place);
    }

    private static void theFirstOfSeveral() {
        fault("old years 100 claims 8", 10);
        fault("old claims 8 in 9", 11);
        fault("chair 8 view 21", 6);
        fault("chair 7 view 21 draught 10", 13);
        fault("quarrel 9 9", 8);
        fault("quarrel 0 9", 10);
        fault("quarrel 0 # 9", 10);
        fault("# old", 0);
        fault("old # ;", 4);
        fault("old in 4;#", 7);
        fault("old; ;#", 5);
        // One byte that begins no token is a token that can't stand there, wherever it is.
        fault("old years #", 10);
        fault("old years 5#", 11);
        fault("old yearS 5", 4);
        fault("Old", 0);
    }

    private static void endsTooEarly() {
        String[] early = {"", " ", "old;", "old ; ", "old years", "old years ", "old claims", "old in", "old years 1 claims",
            "old years 1 claims 2 in ", "chair", "chair ", "chair 1 view", "chair 1 view 3 draught", "quarrel", "quarrel 0",
            "quarrel 0 ", "peace", "peace 1", "peace 1  "};
        for (String text : early) {
            fault(text, text.length());
        }
        fault(" ".repeat(120), 120);
        fault("old;" + " ".repeat(116), 120);
    }

    private static void aNinth() {
        String eight = "old;old;old;old;old;old;old;old";
        for (int there = 0; there <= 8; there++) {
            WindowChairs x = new WindowChairs();
            for (int p = 0; p < there; p++) {
                x.person(0);
            }
            Due.due("28: eight more to " + there, Due.told(x, eight), there == 0 ? 8 : -1 - 4 * (8 - there));
            Due.due("28: all or none", x.count(0), there == 0 ? 8 : there);
        }
        String[] names = {"guest", "old", "talker", "deaf", "queen", "sleeper"};
        for (String name : names) {
            WindowChairs x = Due.with(0, 0, 0, 0, 0, 0, 0, 0);
            Due.due("28: " + name + ", a ninth", Due.told(x, "  " + name + " years 100"), -3);
            Due.due("28: other items can be", Due.told(x, "chair 1;quarrel 0 7;peace 0 7"), 3);
            Due.due("28: another word than a ninth", Due.told(x, name + "s"), -1);
            Due.due("28: behind others", Due.told(x, "chair 1;" + name + ";#"), -9);
        }
    }

    private static void aFaultChangesTheTapeAlone() {
        String[] texts = {"", "#", "old years 5 in 6;chair 3 view 20 draught 9;quarrel 0 2;peace 1 3;old in 6", "chair 1 view 21",
            "peace 1 3;quarrel 2 3;old years 99 claims 7 in 5;", "quarrel 2 3;quarrel 3 3", "old;old;old;old;old"};
        for (String text : texts) {
            WindowChairs x = Edge.some();
            WindowChairs y = Edge.some();
            x.wipe();
            y.wipe();
            Due.due("28: a fault", Due.told(x, text) < 0 ? 1 : 0, 1);
            Due.due("28: nothing changes but the tape, '" + text + "'", Edge.all(x), Edge.all(y));
        }
        WindowChairs z = new WindowChairs();
        Due.due("28: a fault", Due.told(z, "#"), -1);
        Due.due("28: empty then", z.count(1), 0);
        Due.due("28: a text anew", Due.told(z, "old"), 1);
    }

    private static void aFaultIsNoFinding() {
        WindowChairs x = Edge.full();
        Due.due("28: blanks, 120 bytes", x.room(), 1);
        for (int i = 0; i < 9; i++) {
            Due.told(x, i % 2 == 0 ? "old" : "peace 8 8");
        }
        for (int which = -1; which < 7; which++) {
            Due.due("28: no finding", x.status(which), 0);
        }
    }

    private static void whatThereIsStays() {
        WindowChairs x = Edge.some();
        WindowChairs y = Edge.some();
        Due.due("28: three items", x.room(), 3);
        y.wipe();
        y.person(0);
        y.set(4, 1, 7);
        y.sit(4, 4);
        y.chair(2, 0, 9);
        y.quarrel(4, 0, 1);
        Due.due("28: as by calls", Edge.all(x), Edge.all(y));
    }

    /** A whole text, cut behind each of its bytes: it ends too early, or is whole, or its last word is another one. */
    private static void cutAnywhere() {
        String text = "old years 12 claims 3 in 5;chair 1 view 20 draught 9;guest;quarrel 0 1";
        for (int n = 0; n <= text.length(); n++) {
            String cut = text.substring(0, n);
            Model m = new Model();
            m.tape = cut;
            Due.due("28: cut '" + cut + "'", Due.told(new WindowChairs(), cut), m.room());
        }
    }

    /** A byte that begins no TOKEN at each place but inside a WORD or NUMBER is the FAULT itself, or one behind it. */
    private static void anotherByteAnywhere() {
        String text = "old years 12 claims 3 in 5;chair 1 view 20 draught 9";
        for (int n = 0; n <= text.length(); n++) {
            String other = text.substring(0, n) + "#" + text.substring(n);
            boolean inWord = n > 0 && n < text.length() && Character.isLetter(text.charAt(n - 1)) && Character.isLetter(text.charAt(n));
            int due = n;
            if (inWord) {
                due = text.lastIndexOf(' ', n - 1) + 1;
                due = Math.max(due, text.lastIndexOf(';', n - 1) + 1);
            }
            Due.due("28: '" + other + "'", Due.told(new WindowChairs(), other), -1 - due);
        }
    }
}
