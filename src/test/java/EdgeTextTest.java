/** Promises 26 to 28, and THE TEXT of "Terms": their boundary cases, sentence by sentence. */
final class EdgeTextTest {
    public static void main(String[] args) {
        feedRange();
        feedLowestBytes();
        feedFull();
        feedBeyondBeforeFull();
        wipes();
        tokensAsLongAsCanBe();
        wordsFromAToZ();
        numbersAtMost999();
        blanksMayStandBetween();
        textOfItems();
        names();
        everyLetter();
        years();
        claims();
        in();
        inEmptyAlone();
        perhapsInOrder();
        chair();
        view();
        draught();
        twoThereByThen();
        twoUnlike();
        EdgeTextFaults.all();
        Due.end();
    }

    private static void feedRange() {
        Edge.range("26: n", WindowChairs::new, (x, n) -> x.feed(0x61626364, n), Edge.end(1, 1), Edge.end(4, 4));
        Edge.range("26: n, some there", Edge::some, (x, n) -> x.feed(0, n), Edge.end(1, 46), Edge.end(4, 49));
    }

    /** "old" ends in each of the last places of a number, whatever stands above. */
    private static void feedLowestBytes() {
        int[] junk = {0, -1, 0x7F7F7F7F, 0x80808080};
        for (int above : junk) {
            WindowChairs x = new WindowChairs();
            x.feed(above << 8 | 'd', 1);
            x.feed(above << 16 | 'e' << 8 | 'a', 2);
            Due.due("26: three lowest", x.feed(above << 24 | 'f' << 16 | ' ' << 8 | ';', 3), 6);
            x.feed('o' << 24 | 'l' << 16 | 'd' << 8 | ' ', 4);
            Due.due("26: the highest of these first", x.room(), 2);
            Due.due("26: the highest of these first", x.of(0, 0) * 10 + x.of(1, 0), 31);
        }
        WindowChairs y = new WindowChairs();
        y.feed(0x80FF807F, 4);
        Due.due("26: the highest byte of all", y.count(1), 4);
        Due.due("26: begins no token", y.room(), -1);
        y.feed('o' << 24 | 'l' << 16 | 'd' << 8 | 0xFF, 4);
        Due.due("26: behind three", y.room(), -4);
    }

    /** THE TAPE with so many bytes, blanks all. */
    private static WindowChairs blanks(int n) {
        WindowChairs x = new WindowChairs();
        Edge.tapeByFours(x, " ".repeat(n));
        return x;
    }

    private static void feedFull() {
        for (int n = 1; n <= 4; n++) {
            int many = n;
            Due.due("26: to 120 by " + n, blanks(120 - n).feed(0, n), 120);
            for (int had = 121 - n; had <= 120; had++) {
                int there = had;
                Edge.refused("26: " + n + " to " + had, () -> blanks(there), x -> x.feed('a', many), Due.FULL);
            }
        }
        for (int n = 1; n <= 4; n++) {
            int many = n;
            Edge.refused("26: full", Edge::full, x -> x.feed(-1, many), Due.FULL);
        }
    }

    private static void feedBeyondBeforeFull() {
        Edge.beyond("26: n, full", Edge::full, (x, n) -> x.feed(0, n), -1, 0, 5, Integer.MIN_VALUE, Integer.MAX_VALUE);
    }

    private static void wipes() {
        Edge.asked("27: empty", WindowChairs::new, x -> x.wipe(), 0);
        int[] had = {1, 119, 120};
        for (int n : had) {
            WindowChairs x = blanks(n);
            Due.due("27: had " + n, x.wipe(), n);
            Due.due("27: none then", x.wipe() + x.count(1), 0);
            Due.due("27: room for 4", x.feed(0, 4), 4);
        }
        WindowChairs y = Edge.some();
        String was = Due.look(y);
        y.wipe();
        Due.due("27: changes nothing else", Due.look(y), was);
        Due.due("27: nothing of it is left", y.room(), -1);
    }

    private static void items(String text, int due) {
        WindowChairs x = new WindowChairs();
        Due.due("28: '" + text + "'", Due.told(x, text), due);
        Due.due("28: '" + text + "', no finding", x.status(-1), 0);
        Due.due("28: '" + text + "', empty then", x.count(1), 0);
    }

    private static void tokensAsLongAsCanBe() {
        items("oldold", -1);
        items("oldyears 1", -1);
        items("old yearsclaims", -5);
        items("old years1claims1in1", 1);
        items("chair1view1draught1", 1);
        items("chair 12", -7);
        items("chair 1 2", -9);
        items("old;old;quarrel01", -18);
        items("old;old;quarrel0 1", 3);
        items("chair 1view 2draught 3;chair 2", 2);
    }

    private static void wordsFromAToZ() {
        int[] others = {0, 'A', 'Z', '`', '{', '_', '-', '\'', 127, 128, 223, 228, 255};
        for (int b : others) {
            items("old" + (char) b, -4);
            items((char) b + "old", -1);
        }
        items("zold", -1);
        items("aold", -1);
        items("olda", -1);
        items("oldz", -1);
    }

    private static void numbersAtMost999() {
        items("chair 999", -7);
        items("chair 1000", -7);
        items("old years 1000", -11);
        items("old years 4294967300", -11);
        items("old years 99999999999999999999999999", -11);
        items("old years 007", 1);
        int[] others = {'/', ':', '+', '-', '.', 178};
        for (int b : others) {
            items("chair " + (char) b, -7);
            items("chair 1" + (char) b, -8);
        }
        items("chair 0", 1);
        items("old years 9;old years 90", 2);
    }

    private static void blanksMayStandBetween() {
        items(" old", 1);
        items("old ", 1);
        items(" ".repeat(117) + "old", 1);
        items("old" + " ".repeat(117), 1);
        items("old   years   1   claims   1   in   1   ;   chair   1", 2);
        items("o ld", -1);
        items("old yea rs 1", -5);
        items("old years 1 0", -13);
        int[] others = {9, 10, 11, 12, 13, 160};
        for (int b : others) {
            items("old" + (char) b + "years 1", -4);
        }
    }

    private static void textOfItems() {
        items("", -1);
        items(" ", -2);
        items(";", -1);
        items("old", 1);
        items("old;", -5);
        items("old;;old", -5);
        items(";old", -1);
        items("old old", -5);
        items("chair 1 chair 2", -9);
        items("old;old;old;old;old;old;old;old", 8);
        items("chair1;chair1;chair1;chair1;chair1;chair1;chair1;chair1;chair1;chair1;chair1;chair1;chair1;chair1;chair1;chair1;chair1", 17);
        // 120 bytes, all of them wanted.
        String full = "old years 99 claims 7 in 7;old years 99 claims 7 in 6;old years 99 claims 7 in 5;old years 99 claims 7 in 4;chair 7;old ";
        Due.due("28: as many bytes as may be", full.length(), 120);
        items(full, 6);
        items(full.substring(0, 119) + ";", -121);
    }

    private static void names() {
        String[] names = {"guest", "old", "talker", "deaf", "queen", "sleeper"};
        for (int k = 0; k < 6; k++) {
            WindowChairs x = new WindowChairs();
            Due.due("28: " + names[k], Due.told(x, names[k]), 1);
            Due.due("28: " + names[k], x.of(0, 0), k);
            items(names[k].substring(1), -1);
            items(names[k].substring(0, names[k].length() - 1), -1);
            items(names[k] + "s", -1);
        }
        String[] none = {"chairs", "chai", "quarrels", "quarre", "peaces", "peac", "years", "claims", "in", "view", "draught", "x", "room"};
        for (String word : none) {
            items(word + " 0 1", -1);
        }
    }

    /** A WORD in which one letter is another one is another WORD. */
    private static void everyLetter() {
        String[] texts = {"guest", "old", "talker", "deaf", "queen", "sleeper", "chair", "quarrel", "peace", "years", "claims", "in", "view",
            "draught"};
        String[] before = {"", "", "", "", "", "", "", "", "", "old ", "old ", "old ", "chair 1 ", "chair 1 "};
        for (int w = 0; w < texts.length; w++) {
            for (int i = 0; i < texts[w].length(); i++) {
                String other = texts[w].substring(0, i) + "x" + texts[w].substring(i + 1);
                items(before[w] + other + " 0", -1 - before[w].length());
            }
        }
    }

    /** The last NUMBERS that may be, and the first that may not, behind some words; what it came to by a look. */
    private static void ends(String before, int least, int most, Edge.Call look) {
        int[] both = {least, most};
        for (int v : both) {
            WindowChairs x = new WindowChairs();
            Due.due("28: " + before + v, Due.told(x, before + v), 1);
            Due.due("28: " + before + v, look.on(x), v);
        }
        items(before + (most + 1), -1 - before.length());
        items(before + "999", -1 - before.length());
        items(before + "-1", -1 - before.length());
        items(before, -1 - before.length());
        items(before + ";", -1 - before.length());
        items(before + "old", -1 - before.length());
    }

    private static void years() {
        ends("old years ", 0, 99, x -> x.of(0, 1));
    }

    private static void claims() {
        ends("old claims ", 0, 7, x -> x.of(0, 2));
    }

    private static void in() {
        ends("old in ", 0, 7, x -> x.of(0, 5));
        ends("old years 99 claims 7 in ", 0, 7, x -> x.of(0, 5));
    }

    private static void inEmptyAlone() {
        for (int c = 0; c < 8; c++) {
            int chair = c;
            items("old in " + c + ";old in " + c, -17);
            WindowChairs x = new WindowChairs();
            Due.due("28: in " + c, Due.told(x, "old in " + c + ";old in " + (c + 1) % 8), 2);
            Due.due("28: taken before the text", Due.told(x, "old in " + c), -8);
            x.sit(0, -1);
            Due.due("28: left before the text", Due.told(x, "old in " + c), 1);
            Due.due("28: who sits there", x.chairOf(chair, 2), 2);
        }
    }

    private static void perhapsInOrder() {
        items("old years 1 claims 1 in 1", 1);
        items("old years 1 claims 1", 1);
        items("old years 1 in 1", 1);
        items("old claims 1 in 1", 1);
        items("old claims 1 years 1", -14);
        items("old in 1 years 1", -10);
        items("old in 1 claims 1", -10);
        items("old years 1 years 1", -13);
        items("old claims 1 claims 1", -14);
        items("old in 1 in 2", -10);
        items("chair 1 view 1 draught 1", 1);
        items("chair 1 draught 1 view 1", -19);
        items("chair 1 view 1 view 1", -16);
        items("chair 1 draught 1 draught 1", -19);
        items("chair 1 years 1", -9);
        items("old view 1", -5);
    }

    private static void chair() {
        int[] both = {0, 7};
        for (int c : both) {
            WindowChairs x = new WindowChairs();
            String was = Due.look(x);
            Due.due("28: chair " + c, Due.told(x, "chair " + c), 1);
            Due.due("28: chair alone changes nothing", Due.look(x), was);
            Due.due("28: its own view", Due.told(x, "chair " + c + " view 9 draught 8"), 1);
            Due.due("28: its own view", x.chairOf(c, 0) * 10 + x.chairOf(c, 1), 98);
        }
        items("chair 8", -7);
        items("chair", -6);
        items("chair view 1", -7);
    }

    private static void view() {
        ends("chair 7 view ", 0, 20, x -> x.chairOf(7, 0));
    }

    private static void draught() {
        ends("chair 0 draught ", 0, 9, x -> x.chairOf(0, 1));
        ends("chair 0 view 20 draught ", 0, 9, x -> x.chairOf(0, 1));
    }

    private static void twoThereByThen() {
        String[] words = {"quarrel ", "peace "};
        for (String word : words) {
            int at = word.length();
            items(word + "0 1", -1 - at);
            items("old;" + word + "0 1", -7 - at);
            items("old;" + word + "1 0", -5 - at);
            items("old;old;" + word + "0 1", 3);
            items("old;old;" + word + "1 0", 3);
            items("old;old;" + word + "1 2", -11 - at);
            items("old;old;" + word + "2 1", -9 - at);
            items("old;" + word + "0 1;old", -7 - at);
            items("old;old;" + word + "0", -10 - at);
            items("old;old;" + word + "0;", -10 - at);
            items("old;old;" + word + "0 1 0", -13 - at);
        }
        WindowChairs x = Due.with(0, 0, 0, 0, 0, 0, 0, 0);
        Due.due("28: the last of eight", Due.told(x, "quarrel 7 0"), 1);
        Due.due("28: the last of eight", x.of(7, 3) * 1000 + x.of(0, 3), 1128);
        Due.due("28: an eighth is 7", Due.told(x, "quarrel 7 8"), -11);
        Due.due("28: made up", Due.told(x, "peace 0 7"), 1);
        Due.due("28: made up", x.count(3), 0);
        Due.due("28: made up already", Due.told(x, "peace 0 7"), 1);
    }

    private static void twoUnlike() {
        items("old;old;quarrel 0 0", -19);
        items("old;old;quarrel 1 1", -19);
        items("old;old;peace 1 1", -17);
        items("old;old;peace 1 01", -17);
        items("old;quarrel 0 0", -15);
    }
}
