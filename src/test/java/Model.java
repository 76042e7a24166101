import java.util.ArrayList;
import java.util.List;
import java.util.function.Supplier;
import java.util.regex.Matcher;
import java.util.regex.Pattern;

/** The document told a second time, without regard to room or speed: what the class is held against. */
final class Model {
    static final String[] NAMES = {"guest", "old", "talker", "deaf", "queen", "sleeper"};

    static final class Finding extends RuntimeException {
        private static final long serialVersionUID = 1L;
        final int number;

        Finding(int number) {
            super(null, null, false, false);
            this.number = number;
        }
    }

    static class Guest {
        int likes(One one, Place c, boolean sun) {
            return c.view - c.draught - (sun && c.view > 10 ? 4 : 0);
        }

        int minds(One one, One other) {
            return one.foes.contains(other.number) ? -6 : 1;
        }

        int givesUp(One one) {
            return 8;
        }
    }

    static class Old extends Guest {
        @Override int likes(One one, Place c, boolean sun) {
            return super.likes(one, c, sun) + (one.claim == c.number ? one.years / 4 : 0);
        }

        @Override int givesUp(One one) {
            return super.givesUp(one) + one.years / 10;
        }
    }

    static final class Talker extends Guest {
        @Override int likes(One one, Place c, boolean sun) {
            return super.likes(one, c, sun) + 3;
        }

        @Override int minds(One one, One other) {
            return 2 * super.minds(one, other);
        }
    }

    static class Deaf extends Guest {
        @Override int likes(One one, Place c, boolean sun) {
            return c.view / 2 - 2 * c.draught;
        }

        @Override int minds(One one, One other) {
            return 0;
        }

        @Override int givesUp(One one) {
            return 4;
        }
    }

    static final class Queen extends Old {
        @Override int likes(One one, Place c, boolean sun) {
            return super.likes(one, c, sun) + (one.claim == c.number ? 10 : 0);
        }

        @Override int minds(One one, One other) {
            return super.minds(one, other) - 2;
        }

        @Override int givesUp(One one) {
            return 99;
        }
    }

    static final class Sleeper extends Deaf {
        @Override int likes(One one, Place c, boolean sun) {
            return super.likes(one, c, sun) + (c.number == 7 ? 6 : 0);
        }

        @Override int minds(One one, One other) {
            return super.minds(one, other) - (ways(other.kind) instanceof Talker ? 1 : 0);
        }
    }

    static Guest ways(int kind) {
        return switch (kind) {
            case 0 -> new Guest();
            case 1 -> new Old();
            case 2 -> new Talker();
            case 3 -> new Deaf();
            case 4 -> new Queen();
            default -> new Sleeper();
        };
    }

    static final class Place {
        int number;
        int view;
        int draught;
    }

    static final class One {
        int number;
        int kind;
        int years;
        int claim = -1;
        int gap;
        int chair = -1;
        List<Integer> foes = new ArrayList<>();
    }

    /** What an image keeps. */
    static final class World {
        List<Place> places = new ArrayList<>();
        List<One> all = new ArrayList<>();
        int hour;

        World copy() {
            World w = new World();
            for (Place p : places) {
                Place q = new Place();
                q.number = p.number;
                q.view = p.view;
                q.draught = p.draught;
                w.places.add(q);
            }
            for (One o : all) {
                One n = new One();
                n.number = o.number;
                n.kind = o.kind;
                n.years = o.years;
                n.claim = o.claim;
                n.gap = o.gap;
                n.chair = o.chair;
                n.foes.addAll(o.foes);
                w.all.add(n);
            }
            w.hour = hour;
            return w;
        }

        One in(int chair) {
            for (One o : all) {
                if (o.chair == chair) {
                    return o;
                }
            }
            return null;
        }

        boolean sun() {
            return hour % 24 > 9 && hour % 24 < 15;
        }

        int sits(One one, int chair) {
            int sum = ways(one.kind).likes(one, places.get(chair), sun());
            for (One o : all) {
                if (o != one && o.chair >= 0 && Math.abs(o.chair - chair) == 1) {
                    sum += ways(one.kind).minds(one, o);
                }
            }
            return sum;
        }

        int peace() {
            int sum = 0;
            for (One o : all) {
                sum += o.chair < 0 ? 0 : sits(o, o.chair);
            }
            return sum;
        }

        boolean moves(One one) {
            Integer best = null;
            for (int c = 0; c < 8; c++) {
                if (in(c) == null && (best == null || sits(one, c) > sits(one, best))) {
                    best = c;
                }
            }
            if (best != null && (one.chair < 0 || sits(one, best) > sits(one, one.chair))) {
                one.chair = best;
                return true;
            }
            One other = one.claim < 0 ? null : in(one.claim);
            if (other == null || other == one) {
                return false;
            }
            if (sits(one, one.claim) - sits(other, one.claim) >= ways(other.kind).givesUp(other)) {
                other.chair = one.chair;
                one.chair = one.claim;
                return true;
            }
            return false;
        }

        int hour() {
            int moved = 0;
            for (One one : all) {
                moved += moves(one) ? 1 : 0;
            }
            hour++;
            if (in(7) != null) {
                in(7).gap = Math.min(9999, in(7).gap + 1);
            }
            return moved;
        }

        World on(int n) {
            World w = copy();
            for (int i = 0; i < n; i++) {
                w.hour();
            }
            return w;
        }

        int sitsNow(int person) {
            One one = all.get(person);
            return one.chair < 0 ? -1000 : sits(one, one.chair);
        }

        void odds(int a, int b, boolean odds) {
            all.get(a).foes.remove((Integer) b);
            all.get(b).foes.remove((Integer) a);
            if (odds) {
                all.get(a).foes.add(b);
                all.get(b).foes.add(a);
            }
        }

        One more(int kind) {
            One one = new One();
            one.number = all.size();
            one.kind = kind;
            all.add(one);
            return one;
        }
    }

    World world = new World();
    World kept;
    String tape = "";
    long[][] sheets = new long[4][];
    int[] bits = new int[4];
    int[] found = new int[8];

    Model() {
        for (int c = 0; c < 8; c++) {
            Place p = new Place();
            p.number = c;
            p.view = c == 0 ? 15 : 3;
            p.draught = 1;
            world.places.add(p);
        }
    }

    /** An act, whose finding, if it has one, is counted and answered. */
    long act(Supplier<Number> act) {
        try {
            return act.get().longValue();
        } catch (Finding f) {
            found[-1000000001 - f.number]++;
            return f.number;
        }
    }

    static void ask(boolean holds, int finding) {
        if (!holds) {
            throw new Finding(finding);
        }
    }

    static void range(int v, int least, int most) {
        ask(v >= least && v <= most, Due.BEYOND);
    }

    One one(int person) {
        range(person, 0, world.all.size() - 1);
        return world.all.get(person);
    }

    int chair(int chair, int what, int v) {
        range(chair, 0, 7);
        range(what, 0, 1);
        range(v, 0, what == 0 ? 20 : 9);
        Place p = world.places.get(chair);
        int was = what == 0 ? p.view : p.draught;
        if (what == 0) {
            p.view = v;
        } else {
            p.draught = v;
        }
        return was;
    }

    int chairOf(int chair, int what) {
        range(chair, 0, 7);
        range(what, 0, 2);
        Place p = world.places.get(chair);
        One o = world.in(chair);
        return what == 0 ? p.view : what == 1 ? p.draught : o == null ? -1 : o.number;
    }

    int person(int kind) {
        range(kind, 0, 5);
        ask(world.all.size() < 8, Due.FULL);
        return world.more(kind).number;
    }

    int of(int person, int what) {
        One o = one(person);
        range(what, 0, 6);
        int foes = 0;
        for (int f : o.foes) {
            foes += 1 << f;
        }
        return new int[] {o.kind, o.years, o.claim, foes, o.gap, o.chair, ways(o.kind).givesUp(o)}[what];
    }

    int set(int person, int what, int v) {
        One o = one(person);
        ask(what == 1 || what == 2 || what == 4, Due.BEYOND);
        range(v, what == 2 ? -1 : 0, what == 1 ? 99 : what == 2 ? 7 : 9999);
        int was = of(person, what);
        if (what == 1) {
            o.years = v;
        } else if (what == 2) {
            o.claim = v;
        } else {
            o.gap = v;
        }
        return was;
    }

    int turn(int person, int kind) {
        One o = one(person);
        range(kind, 0, 5);
        int was = o.kind;
        o.kind = kind;
        return was;
    }

    int as(int person, int kind) {
        One o = one(person);
        range(kind, 0, 5);
        ask(ways(kind).getClass().isInstance(ways(o.kind)), Due.KIND);
        return o.years;
    }

    int quarrel(int person, int other, int v) {
        one(person);
        one(other);
        ask(person != other, Due.BEYOND);
        range(v, 0, 1);
        int was = world.all.get(person).foes.contains(other) ? 1 : 0;
        world.odds(person, other, v == 1);
        return was;
    }

    int sit(int person, int chair) {
        One o = one(person);
        range(chair, -1, 7);
        ask(chair < 0 || world.in(chair) == null || world.in(chair) == o, Due.STATE);
        int was = o.chair;
        o.chair = chair;
        return was;
    }

    int change(int person, int other) {
        One a = one(person);
        One b = one(other);
        ask(a != b, Due.BEYOND);
        int c = a.chair;
        a.chair = b.chair;
        b.chair = c;
        return 1;
    }

    int well(int person, int chair) {
        One o = one(person);
        range(chair, 0, 7);
        return 1000 + world.sits(o, chair);
    }

    int hours(int n) {
        range(n, 1, 60);
        ask(world.hour + n <= 99999, Due.STATE);
        int moved = 0;
        for (int i = 0; i < n; i++) {
            moved = world.hour();
        }
        return moved;
    }

    int now(int what) {
        range(what, 0, 5);
        int sit = 0;
        int empty = 255;
        for (One o : world.all) {
            if (o.chair >= 0) {
                sit += 1 << o.number;
                empty -= 1 << o.chair;
            }
        }
        return new int[] {world.hour, world.hour % 24, world.sun() ? 1 : 0, sit, 10000 + world.peace(), empty}[what];
    }

    int on(int person, int n, int what) {
        one(person);
        range(n, 0, 60);
        range(what, 0, 1);
        One o = world.on(n).all.get(person);
        return what == 0 ? o.chair : o.gap;
    }

    int peace(int n) {
        range(n, 0, 60);
        return 10000 + world.on(n).peace();
    }

    int settles() {
        for (int n = 0; n <= 60; n++) {
            if (world.on(n).hour() == 0) {
                return n;
            }
        }
        throw new Finding(Due.NONE);
    }

    int gets(int person, int chair) {
        one(person);
        range(chair, 0, 7);
        for (int n = 0; n <= 60; n++) {
            if (world.on(n).all.get(person).chair == chair) {
                return n;
            }
        }
        throw new Finding(Due.NONE);
    }

    int best() {
        List<Integer> who = new ArrayList<>();
        List<Integer> where = new ArrayList<>();
        for (One o : world.all) {
            if (o.chair >= 0) {
                who.add(o.number);
                where.add(o.chair);
            }
        }
        ask(who.size() <= 6, Due.SIZE);
        return 10000 + most(world.copy(), who, where);
    }

    private static int most(World w, List<Integer> who, List<Integer> where) {
        if (who.isEmpty()) {
            return w.peace();
        }
        int most = Integer.MIN_VALUE;
        for (Integer chair : where) {
            List<Integer> left = new ArrayList<>(where);
            left.remove(chair);
            w.all.get(who.get(0)).chair = chair;
            most = Math.max(most, most(w, who.subList(1, who.size()), left));
        }
        return most;
    }

    int mend(int n) {
        range(n, 0, 30);
        int most = world.on(n).peace();
        int two = -1;
        for (int code = 1; code < 78; code++) {
            int a = code / 10;
            int b = code % 10;
            if (a < b && b < world.all.size() && world.all.get(a).foes.contains(b)) {
                World w = world.copy();
                w.odds(a, b, false);
                int peace = w.on(n).peace();
                if (peace > most) {
                    most = peace;
                    two = code;
                }
            }
        }
        ask(two >= 0, Due.NONE);
        return two;
    }

    int kind(int person, int n) {
        one(person);
        range(n, 0, 30);
        int best = -1;
        int most = Integer.MIN_VALUE;
        for (int k = 0; k < 6; k++) {
            World w = world.copy();
            w.all.get(person).kind = k;
            int sits = w.on(n).sitsNow(person);
            if (sits > most) {
                most = sits;
                best = k;
            }
        }
        return best;
    }

    int claim(int person, int n) {
        one(person);
        range(n, 0, 30);
        int best = -2;
        int most = Integer.MIN_VALUE;
        for (int c = -1; c < 8; c++) {
            World w = world.copy();
            w.all.get(person).claim = c;
            int sits = w.on(n).sitsNow(person);
            if (sits > most) {
                most = sits;
                best = c;
            }
        }
        return best + 1;
    }

    int years(int person, int chair, int n) {
        one(person);
        range(chair, 0, 7);
        range(n, 1, 30);
        for (int y = 0; y < 100; y++) {
            World w = world.copy();
            w.all.get(person).years = y;
            if (w.on(n).all.get(person).chair == chair) {
                return y;
            }
        }
        throw new Finding(Due.NONE);
    }

    int always(int n) {
        range(n, 0, 60);
        ask(!world.all.isEmpty(), Due.NONE);
        One most = null;
        for (One o : world.on(n).all) {
            if (most == null || o.gap > most.gap) {
                most = o;
            }
        }
        return most.number;
    }

    int beside(int person) {
        One one = one(person);
        int best = -1;
        int most = Integer.MIN_VALUE;
        for (One him : world.all) {
            for (int c = 0; c < 8; c++) {
                boolean free = world.in(c) == null || world.in(c) == one;
                if (him != one && him.chair >= 0 && free && Math.abs(c - him.chair) == 1 && world.sits(one, c) > most) {
                    most = world.sits(one, c);
                    best = him.number;
                }
            }
        }
        ask(best >= 0, Due.NONE);
        return best;
    }

    int feed(int bytes, int n) {
        range(n, 1, 4);
        ask(tape.length() + n <= 120, Due.FULL);
        for (int i = n - 1; i >= 0; i--) {
            tape += (char) (bytes >> 8 * i & 255);
        }
        return tape.length();
    }

    int wipe() {
        int had = tape.length();
        tape = "";
        return had;
    }

    /** A TOKEN and where it begins; the last one, behind all, is empty. */
    record Token(String text, int place) {
        boolean isNumber(int most) {
            return text.matches("0*[0-9]{1,3}") && Integer.parseInt(text) <= most;
        }

        int number() {
            return Integer.parseInt(text);
        }
    }

    static final class Fault extends RuntimeException {
        private static final long serialVersionUID = 1L;
        final int place;

        Fault(Token t) {
            super(null, null, false, false);
            place = t.place;
        }
    }

    private List<Token> tokens;
    private int next;

    int room() {
        tokens = new ArrayList<>();
        Matcher m = Pattern.compile(" *([a-z]+|[0-9]+|[^ ])", Pattern.DOTALL).matcher(tape);
        while (m.find()) {
            tokens.add(new Token(m.group(1), m.start(1)));
        }
        tokens.add(new Token("", tape.length()));
        next = 0;
        tape = "";
        World w = world.copy();
        try {
            int items = 0;
            do {
                item(w);
                items++;
            } while (perhaps(";"));
            if (!tokens.get(next).text.isEmpty()) {
                throw new Fault(tokens.get(next));
            }
            world = w;
            return items;
        } catch (Fault f) {
            return -1 - f.place;
        }
    }

    private boolean perhaps(String text) {
        if (tokens.get(next).text.equals(text)) {
            next++;
            return true;
        }
        return false;
    }

    private int number(int most) {
        Token t = tokens.get(next);
        if (!t.isNumber(most)) {
            throw new Fault(t);
        }
        next++;
        return t.number();
    }

    private void item(World w) {
        for (int k = 0; k < 6; k++) {
            if (tokens.get(next).text.equals(NAMES[k])) {
                if (w.all.size() == 8) {
                    throw new Fault(tokens.get(next));
                }
                next++;
                newOne(w, k);
                return;
            }
        }
        if (perhaps("chair")) {
            Place p = w.places.get(number(7));
            p.view = perhaps("view") ? number(20) : p.view;
            p.draught = perhaps("draught") ? number(9) : p.draught;
        } else if (tokens.get(next).text.matches("quarrel|peace")) {
            boolean odds = perhaps("quarrel") || !perhaps("peace");
            int a = number(w.all.size() - 1);
            int b = number(w.all.size() - 1);
            if (a == b) {
                throw new Fault(tokens.get(next - 1));
            }
            w.odds(a, b, odds);
        } else {
            throw new Fault(tokens.get(next));
        }
    }

    private void newOne(World w, int kind) {
        One one = w.more(kind);
        one.years = perhaps("years") ? number(99) : 0;
        one.claim = perhaps("claims") ? number(7) : -1;
        if (perhaps("in")) {
            int c = number(7);
            if (w.in(c) != null) {
                throw new Fault(tokens.get(next - 1));
            }
            one.chair = c;
        }
    }

    int sheet(int s, int b, int n) {
        range(s, 0, 3);
        ask(List.of(0, 8, 16, 64).contains(b), Due.BEYOND);
        ask(n >= 0, Due.SIZE);
        range(n, 0, 40);
        sheets[s] = b == 0 ? null : new long[n];
        bits[s] = b;
        return b == 0 ? 0 : n;
    }

    private long[] paper(int s) {
        range(s, 0, 3);
        ask(sheets[s] != null, Due.MISSING);
        return sheets[s];
    }

    private long cut(int s, long v) {
        return v << 64 - bits[s] >> 64 - bits[s];
    }

    long write(int s, int i, long v) {
        long[] row = paper(s);
        range(i, 0, row.length - 1);
        long was = row[i];
        row[i] = cut(s, v);
        return was;
    }

    int copy(int s, int from, int t, int to, int n) {
        range(s, 0, 3);
        range(t, 0, 3);
        long[] a = paper(s);
        long[] b = paper(t);
        ask(bits[s] == bits[t], Due.KIND);
        ask(from >= 0 && to >= 0 && n >= 0, Due.BEYOND);
        ask((long) from + n <= a.length && (long) to + n <= b.length, Due.BEYOND);
        long[] were = a.clone();
        for (int i = 0; i < n; i++) {
            b[to + i] = were[from + i];
        }
        return n;
    }

    int lays(int s) {
        long[] row = paper(s);
        int came = 0;
        for (int i = 0; i < row.length; i++) {
            if (i < 8 && row[i] >= 0 && row[i] <= 20) {
                world.places.get(i).view = (int) row[i];
                came++;
            }
        }
        return came;
    }

    int book(int s, int person) {
        long[] row = paper(s);
        one(person);
        for (int i = 0; i < row.length; i++) {
            row[i] = world.on(i).all.get(person).chair;
        }
        return row.length;
    }

    int read(int s, int person) {
        long[] row = paper(s);
        one(person);
        int pairs = 0;
        for (int k = 0; k < 6; k++) {
            for (int c = -1; c < 8; c++) {
                World w = world.copy();
                w.all.get(person).kind = k;
                w.all.get(person).claim = c;
                boolean so = true;
                for (int i = 0; i < row.length && so; i++) {
                    so = w.on(i).all.get(person).chair == row[i];
                }
                pairs += so ? 1 : 0;
            }
        }
        return pairs;
    }

    int image() {
        kept = world.copy();
        return 1;
    }

    int undo() {
        ask(kept != null, Due.NONE);
        world = kept.copy();
        return world.all.size();
    }

    int tear() {
        int was = kept == null ? 0 : 1;
        kept = null;
        return was;
    }

    int count(int what) {
        range(what, 0, 3);
        int sit = 0;
        int foes = 0;
        for (One o : world.all) {
            sit += o.chair >= 0 ? 1 : 0;
            foes += o.foes.size();
        }
        return new int[] {world.all.size(), tape.length(), sit, foes / 2}[what];
    }

    int status(int which) {
        range(which, -1, 6);
        int all = 0;
        for (int f : found) {
            all += f;
        }
        return which < 0 ? all : found[which];
    }
}
