import java.util.Random;

/** Runs of calls, made by fixed seeds, on the class and on the model of it: every answer must be the same. */
final class ModelTest {
    private static final int RUNS = 700;
    // What an object answers after its 512th call is free, so a run ends before it.
    private static final int CALLS = 512;
    // A text that fills THE TAPE by fours, and what stands around it; no step takes more.
    private static final int CALLS_OF_A_STEP = 34;

    private final Random random;
    private final WindowChairs x = new WindowChairs();
    private final Model m = new Model();
    private String pending = "";
    private int calls = 0;

    private ModelTest(long seed) {
        random = new Random(seed);
    }

    public static void main(String[] args) {
        int runs = args.length > 0 ? Integer.parseInt(args[0]) : RUNS;
        for (int seed = 0; seed < runs; seed += 2) {
            // Two at a time, by turns: no object may know of another one.
            ModelTest one = new ModelTest(seed);
            ModelTest other = new ModelTest(seed + 1);
            one.people(seed % 9);
            while (one.hasCallsLeft() || other.hasCallsLeft()) {
                one.stepIfLeft(seed);
                other.stepIfLeft(seed + 1);
            }
        }
        Due.end();
    }

    private boolean hasCallsLeft() {
        return calls + CALLS_OF_A_STEP <= CALLS;
    }

    private void stepIfLeft(long seed) {
        if (hasCallsLeft()) {
            step(seed);
        }
    }

    private void due(String call, long got, long want) {
        calls++;
        Due.due(call, got, want);
    }

    /** So that not all runs begin with few. */
    private void people(int n) {
        for (int p = 0; p < n; p++) {
            int k = random.nextInt(6);
            due("person " + k, x.person(k), m.act(() -> m.person(k)));
        }
    }

    /** Mostly a number of a range, now and then one off it or far from it. */
    private int some(int least, int most) {
        int luck = random.nextInt(60);
        if (luck == 0) {
            return Due.FAR[random.nextInt(Due.FAR.length)];
        }
        if (luck == 1) {
            return random.nextBoolean() ? least - 1 : most + 1;
        }
        return least + random.nextInt(most - least + 1);
    }

    private int who() {
        return some(0, Math.max(0, m.world.all.size() - 1));
    }

    private void step(long seed) {
        String at = "seed " + seed + ": ";
        switch (random.nextInt(9)) {
            case 0, 1, 2 -> peopleStep(at);
            case 3 -> hoursStep(at);
            case 4 -> bestStep(at);
            case 5 -> textStep(at);
            case 6 -> sheetStep(at);
            case 7 -> imageStep(at);
            default -> chairStep(at);
        }
    }

    private void chairStep(String at) {
        int c = some(0, 7);
        int what = some(0, 1);
        int v = some(0, what == 0 ? 20 : 9);
        if (random.nextInt(3) > 0) {
            due(at + "chair " + c + " " + what + " " + v, x.chair(c, what, v), m.act(() -> m.chair(c, what, v)));
        } else {
            int w = some(0, 2);
            due(at + "chairOf " + c + " " + w, x.chairOf(c, w), m.act(() -> m.chairOf(c, w)));
        }
    }

    private void peopleStep(String at) {
        int p = who();
        int q = who();
        int c = some(-1, 7);
        int k = some(0, 5);
        switch (random.nextInt(10)) {
            case 0 -> due(at + "person " + k, x.person(k), m.act(() -> m.person(k)));
            case 1 -> {
                int w = some(0, 6);
                due(at + "of " + p + " " + w, x.of(p, w), m.act(() -> m.of(p, w)));
            }
            case 2, 3 -> {
                int w = random.nextInt(5);
                int v = w == 2 ? c : some(0, w == 1 ? 99 : 9999);
                due(at + "set " + p + " " + w + " " + v, x.set(p, w, v), m.act(() -> m.set(p, w, v)));
            }
            case 4 -> due(at + "turn " + p + " " + k, x.turn(p, k), m.act(() -> m.turn(p, k)));
            case 5 -> due(at + "as " + p + " " + k, x.as(p, k), m.act(() -> m.as(p, k)));
            case 6 -> {
                int v = some(0, 1);
                due(at + "quarrel " + p + " " + q + " " + v, x.quarrel(p, q, v), m.act(() -> m.quarrel(p, q, v)));
            }
            case 7 -> due(at + "sit " + p + " " + c, x.sit(p, c), m.act(() -> m.sit(p, c)));
            case 8 -> due(at + "change " + p + " " + q, x.change(p, q), m.act(() -> m.change(p, q)));
            default -> due(at + "well " + p + " " + c, x.well(p, c), m.act(() -> m.well(p, c)));
        }
    }

    private void hoursStep(String at) {
        int p = who();
        int n = some(0, random.nextInt(4) == 0 ? 60 : 8);
        int c = some(0, 7);
        switch (random.nextInt(8)) {
            case 0, 1 -> due(at + "hours " + n, x.hours(n), m.act(() -> m.hours(n)));
            case 2, 3 -> {
                int w = some(0, 5);
                due(at + "now " + w, x.now(w), m.act(() -> m.now(w)));
            }
            case 4 -> {
                int w = some(0, 1);
                due(at + "on " + p + " " + n + " " + w, x.on(p, n, w), m.act(() -> m.on(p, n, w)));
            }
            case 5 -> due(at + "peace " + n, x.peace(n), m.act(() -> m.peace(n)));
            case 6 -> due(at + "settles", x.settles(), m.act(() -> m.settles()));
            default -> due(at + "gets " + p + " " + c, x.gets(p, c), m.act(() -> m.gets(p, c)));
        }
    }

    private void bestStep(String at) {
        int p = who();
        int c = some(0, 7);
        int n = some(0, random.nextInt(6) == 0 ? 30 : 5);
        switch (random.nextInt(7)) {
            case 0 -> due(at + "best", x.best(), m.act(() -> m.best()));
            case 1 -> due(at + "mend " + n, x.mend(n), m.act(() -> m.mend(n)));
            case 2 -> due(at + "kind " + p + " " + n, x.kind(p, n), m.act(() -> m.kind(p, n)));
            case 3 -> due(at + "claim " + p + " " + n, x.claim(p, n), m.act(() -> m.claim(p, n)));
            case 4 -> due(at + "years " + p + " " + c + " " + n, x.years(p, c, n), m.act(() -> m.years(p, c, n)));
            case 5 -> {
                int far = some(0, 60);
                due(at + "always " + far, x.always(far), m.act(() -> m.always(far)));
            }
            default -> due(at + "beside " + p, x.beside(p), m.act(() -> m.beside(p)));
        }
    }

    private void textStep(String at) {
        if (random.nextInt(4) == 0) {
            int n = some(1, 4);
            int bytes = random.nextInt();
            due(at + "feed", x.feed(bytes, n), m.act(() -> m.feed(bytes, n)));
        }
        if (random.nextInt(6) > 0) {
            due(at + "wipe", x.wipe(), m.act(() -> m.wipe()));
            pending = text();
            feedAll(at);
        }
        due(at + "room '" + pending + "'", x.room(), m.act(() -> m.room()));
    }

    private void feedAll(String at) {
        // Beyond 120 bytes THE TAPE is FULL; one refused feed tells as much as many.
        for (int i = 0; i < Math.min(pending.length(), 124); i += 4) {
            int n = Math.min(4, pending.length() - i);
            int bytes = random.nextInt();
            for (int b = 0; b < n; b++) {
                bytes = bytes << 8 | pending.charAt(i + b);
            }
            int fed = bytes;
            due(at + "feed", x.feed(fed, n), m.act(() -> m.feed(fed, n)));
        }
    }

    private String text() {
        StringBuilder all = new StringBuilder(item());
        while (random.nextInt(3) > 0) {
            all.append(blank()).append(';').append(blank()).append(item());
        }
        if (random.nextInt(3) == 0) {
            int i = random.nextInt(all.length());
            switch (random.nextInt(4)) {
                case 0 -> all.setLength(i);
                case 1 -> all.deleteCharAt(i);
                case 2 -> all.insert(i, "; 9a#~".charAt(random.nextInt(6)));
                default -> all.setCharAt(i, (char) random.nextInt(256));
            }
        }
        return all.toString();
    }

    private String blank() {
        return random.nextInt(3) == 0 ? " " : "";
    }

    private String item() {
        int luck = random.nextInt(6);
        int there = Math.max(1, m.world.all.size());
        if (luck < 2) {
            return (luck == 0 ? "quarrel " : "peace ") + random.nextInt(there) + " " + random.nextInt(there);
        }
        if (luck < 4) {
            return "chair " + random.nextInt(8) + told(" view ", 21) + told(" draught ", 10);
        }
        return Model.NAMES[random.nextInt(6)] + told(" years ", 100) + told(" claims ", 8) + told(" in ", 8);
    }

    private String told(String word, int below) {
        return random.nextBoolean() ? word + random.nextInt(random.nextInt(15) == 0 ? below + 2 : below) : "";
    }

    private void sheetStep(String at) {
        int s = some(0, 3);
        int t = some(0, 3);
        int p = who();
        int n = some(0, random.nextInt(5) == 0 ? 40 : 6);
        switch (random.nextInt(8)) {
            case 0, 1 -> {
                int b = new int[] {8, 8, 16, 64, 0, 7}[random.nextInt(6)];
                due(at + "sheet " + s + " " + b + " " + n, x.sheet(s, b, n), m.act(() -> m.sheet(s, b, n)));
            }
            case 2, 3 -> {
                long v = random.nextBoolean() ? random.nextInt(24) - 2 : random.nextLong();
                due(at + "write " + s + " " + n + " " + v, x.write(s, n, v), m.act(() -> m.write(s, n, v)));
            }
            case 4 -> {
                int from = some(0, 4);
                int to = some(0, 4);
                due(at + "copy", x.copy(s, from, t, to, n), m.act(() -> m.copy(s, from, t, to, n)));
            }
            case 5 -> due(at + "lays " + s, x.lays(s), m.act(() -> m.lays(s)));
            case 6 -> due(at + "book " + s + " " + p, x.book(s, p), m.act(() -> m.book(s, p)));
            default -> due(at + "read " + s + " " + p, x.read(s, p), m.act(() -> m.read(s, p)));
        }
    }

    private void imageStep(String at) {
        switch (random.nextInt(8)) {
            case 0, 1 -> due(at + "image", x.image(), m.act(() -> m.image()));
            case 2, 3 -> due(at + "undo", x.undo(), m.act(() -> m.undo()));
            case 4 -> due(at + "tear", x.tear(), m.act(() -> m.tear()));
            case 5 -> {
                int what = some(0, 3);
                due(at + "count " + what, x.count(what), m.act(() -> m.count(what)));
            }
            default -> {
                int which = some(-1, 6);
                due(at + "status " + which, x.status(which), m.act(() -> m.status(which)));
            }
        }
    }
}
