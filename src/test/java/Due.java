/** What the tests share: answers that are due, and what can be seen of an object. */
final class Due {
    static final int BEYOND = -1000000001;
    static final int FULL = -1000000002;
    static final int KIND = -1000000003;
    static final int NONE = -1000000004;
    static final int STATE = -1000000005;
    static final int MISSING = -1000000006;
    static final int SIZE = -1000000007;
    static final int[] FAR = {Integer.MIN_VALUE, Integer.MIN_VALUE + 1, -1000, 1000, Integer.MAX_VALUE - 1, Integer.MAX_VALUE};

    private static int wrong = 0;
    private static int asked = 0;

    private Due() {
    }

    static void due(String call, long got, long want) {
        asked++;
        if (got != want) {
            wrong++;
            System.out.println(call + " answered " + got + ", due is " + want);
        }
    }

    static void due(String what, String got, String want) {
        asked++;
        if (!got.equals(want)) {
            wrong++;
            System.out.println(what + " is " + got + ", due is " + want);
        }
    }

    static void end() {
        System.out.println(asked + " answers, " + wrong + " not as due");
        if (wrong != 0) {
            System.exit(1);
        }
    }

    static void tape(WindowChairs x, String text) {
        for (int i = 0; i < text.length(); i++) {
            x.feed(text.charAt(i), 1);
        }
    }

    /** What room() answers to a text. */
    static int told(WindowChairs x, String text) {
        tape(x, text);
        return x.room();
    }

    static WindowChairs with(int... kinds) {
        WindowChairs x = new WindowChairs();
        for (int kind : kinds) {
            x.person(kind);
        }
        return x;
    }

    /** A room at an hour: people by kind, years, claim and chair; quarrels as 10 times one and the other. */
    static WindowChairs room(int hour, int[][] people, int[] views, int[] draughts, int... quarrels) {
        WindowChairs x = new WindowChairs();
        if (hour > 0) {
            x.hours(hour);
        }
        for (int p = 0; p < people.length; p++) {
            x.person(people[p][0]);
            x.set(p, 1, people[p][1]);
            x.set(p, 2, people[p][2]);
            x.sit(p, people[p][3]);
        }
        for (int c = 0; c < views.length; c++) {
            x.chair(c, 0, views[c]);
            x.chair(c, 1, draughts[c]);
        }
        for (int two : quarrels) {
            x.quarrel(two / 10, two % 10, 1);
        }
        return x;
    }

    /** All of section 1 but THE TAPE, as the calls tell it. */
    static String look(WindowChairs x) {
        StringBuilder told = new StringBuilder();
        for (int c = 0; c < 8; c++) {
            told.append('c');
            for (int what = 0; what < 3; what++) {
                told.append(x.chairOf(c, what)).append(' ');
            }
        }
        for (int p = 0; p < x.count(0); p++) {
            told.append('p');
            for (int what = 0; what < 7; what++) {
                told.append(x.of(p, what)).append(' ');
            }
        }
        for (int what = 0; what < 6; what++) {
            told.append('n').append(x.now(what)).append(' ');
        }
        return told.toString();
    }
}
