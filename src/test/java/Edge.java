import java.util.Arrays;
import java.util.function.Supplier;

/** What the tests of boundary cases share: rooms to ask in, calls that are refused, the ends of ranges. */
final class Edge {
    /** A call on an object. */
    interface Call {
        long on(WindowChairs x);
    }

    /** A call on an object with one number that is tried. */
    interface CallOf {
        long on(WindowChairs x, int v);
    }

    static final String TEXT = "guest years 7 in 4;chair 2 view 9;quarrel 0 4";

    private Edge() {
    }

    /** Four people, of whom 1 stands; an image of three; SHEETS of 3, 2, 2 numbers, and one MISSING; a text on THE TAPE. */
    static WindowChairs some() {
        WindowChairs x = Due.with(1, 4, 0);
        x.set(0, 1, 44);
        x.set(1, 2, 0);
        x.set(2, 4, 17);
        x.quarrel(0, 2, 1);
        x.chair(3, 0, 12);
        x.hours(3);
        x.image();
        x.person(5);
        x.turn(2, 2);
        x.chair(3, 0, 5);
        x.chair(6, 1, 8);
        x.quarrel(1, 3, 1);
        x.hours(2);
        x.sit(1, -1);
        x.sit(0, 1);
        int[] bits = {8, 16, 64};
        for (int s = 0; s < 3; s++) {
            x.sheet(s, bits[s], s == 0 ? 3 : 2);
            x.write(s, 0, 11 + s);
            x.write(s, 1, -1 - s);
        }
        tapeByFours(x, TEXT);
        return x;
    }

    /** Eight people, who all sit and all quarrel; one sheet of 40 numbers; THE TAPE is full. */
    static WindowChairs full() {
        WindowChairs x = Due.with(0, 1, 2, 3, 4, 5, 0, 1);
        x.hours(1);
        for (int p = 0; p < 8; p++) {
            for (int q = 0; q < p; q++) {
                x.quarrel(p, q, 1);
            }
        }
        x.image();
        x.set(7, 4, 9999);
        x.sheet(0, 16, 40);
        x.write(0, 39, 7);
        tapeByFours(x, "chair 3 view 1" + " ".repeat(106));
        return x;
    }

    /** A SLEEPER that will go to THE TROLLEY, and one DEAF that will go to CHAIR 0; they stay there. */
    static WindowChairs sleeper() {
        WindowChairs x = Due.with(5, 3);
        x.chair(0, 0, 6);
        return x;
    }

    /** Eight people, one in each CHAIR of their number. */
    static WindowChairs seated() {
        WindowChairs x = new WindowChairs();
        for (int p = 0; p < 8; p++) {
            x.person(0);
            x.sit(p, p);
        }
        return x;
    }

    /** Calls are few in an object's life, so a text comes by as many bytes as a call takes. */
    static void tapeByFours(WindowChairs x, String text) {
        int at = 0;
        while (at < text.length()) {
            int n = Math.min(4, text.length() - at);
            int bytes = 0;
            for (int i = 0; i < n; i++) {
                bytes = bytes << 8 | text.charAt(at + i);
            }
            x.feed(bytes, n);
            at += n;
        }
    }

    /** A call that answers a FINDING: it is counted, once and under its own number, and nothing else changes. */
    static void refused(String call, Supplier<WindowChairs> made, Call act, int finding) {
        WindowChairs x = made.get();
        int[] due = statuses(x);
        due[0]++;
        due[-1000000000 - finding]++;
        Due.due(call, act.on(x), finding);
        Due.due(call + ": status()", Arrays.toString(statuses(x)), Arrays.toString(due));
        Due.due(call + ": all else", all(x), all(made.get()));
    }

    /** The same in an empty room, in one with some people, and in a full one. */
    static void refusedAnywhere(String call, Call act, int finding) {
        refused(call + ", nobody there", WindowChairs::new, act, finding);
        refused(call, Edge::some, act, finding);
        refused(call + ", full", Edge::full, act, finding);
    }

    /** A call that answers, and changes nothing at all. */
    static void asked(String call, Supplier<WindowChairs> made, Call act, long want) {
        WindowChairs x = made.get();
        String were = Arrays.toString(statuses(x));
        Due.due(call, act.on(x), want);
        Due.due(call + ": no finding", Arrays.toString(statuses(x)), were);
        Due.due(call + ": changes nothing", all(x), all(made.get()));
    }

    /** The last number that may be, at either end, with the answer due; the first that may not, and those far off. */
    static void range(String what, Supplier<WindowChairs> made, CallOf act, long[] least, long[] most) {
        Due.due(what + ", least " + least[0], act.on(made.get(), (int) least[0]), least[1]);
        Due.due(what + ", most " + most[0], act.on(made.get(), (int) most[0]), most[1]);
        beyond(what, made, act, (int) least[0] - 1, (int) most[0] + 1);
        for (int far : Due.FAR) {
            if (far < least[0] || far > most[0]) {
                beyond(what, made, act, far);
            }
        }
    }

    static void beyond(String what, Supplier<WindowChairs> made, CallOf act, int... wrong) {
        for (int v : wrong) {
            refused(what + ", " + v, made, x -> act.on(x, v), Due.BEYOND);
        }
    }

    /** What is put is there then. */
    static void becomes(String what, Supplier<WindowChairs> made, CallOf put, Call look, int... numbers) {
        for (int v : numbers) {
            WindowChairs x = made.get();
            put.on(x, v);
            Due.due(what + " becomes " + v, look.on(x), v);
        }
    }

    static long[] end(long number, long due) {
        return new long[] {number, due};
    }

    static int[] statuses(WindowChairs x) {
        int[] all = new int[8];
        for (int which = -1; which < 7; which++) {
            all[1 + which] = x.status(which);
        }
        return all;
    }

    /** All that can be known of an object but status(); it is used up by that. */
    static String all(WindowChairs x) {
        StringBuilder told = new StringBuilder(Due.look(x));
        for (int s = 0; s < 4; s++) {
            told.append(" sheet");
            for (int i = 0; i <= 40; i++) {
                long v = x.write(s, i, 0x123456789ABCL);
                told.append(' ').append(v);
                if (v == Due.BEYOND || v == Due.MISSING) {
                    break;
                }
            }
            told.append(" of ").append(x.write(s, 0, 0));
        }
        told.append(" tape ").append(x.count(1)).append(' ').append(x.room()).append(' ').append(Due.look(x));
        told.append(" image ").append(x.undo()).append(' ').append(Due.look(x));
        return told.toString();
    }
}
