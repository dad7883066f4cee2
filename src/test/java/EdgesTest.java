import java.io.IOException;
import java.util.ArrayList;
import java.util.List;

/** The promises, sentence by sentence, at the bounds that each names; each sentence is quoted ahead of its test. */
public final class EdgesTest extends Refusals {
    public static void main(String[] args) throws IOException {
        newObject();
        told();
        toldOfParts();
        rowAt();
        dot();
        part();
        hole();
        row();
        turn();
        wipe();
        fill();
        grow();
        shrink();
        move();
        over();
        mode();
        drift();
        undo();
        alike();
        small();
        seed();
        keep();
        goBack();
        saidAllBetween("## Promise 1:", "## Not promised");
        end();
    }

    // ---- the picture

    private static void newObject() {
        says("`BlobRuns()`: All light, MODE 4.");
        BlobRuns x = new BlobRuns();
        shows("new", x);
        tells("new", x, 4, 0, 0, 0, 1, 1000, 0, 0, NONE, NONE, 0);
        due("undo(1)", x.undo(1), NOT);
        due("goBack(0)", x.goBack(0), NOT);
        due("goBack(1)", x.goBack(1), NOT);
        due("seed(9)", x.seed(9), 0);
        // One object knows nothing of another.
        x.over();
        x.mode(8);
        x.keep(0);
        BlobRuns y = new BlobRuns();
        shows("another", y);
        tells("another", y, 4, 0, 0, 0, 1, 1000, 0, 0, NONE, NONE, 0);
        due("goBack(0) of another", y.goBack(0), NOT);
        due("seed(1) of another", y.seed(1), 0);
    }

    private static void told() {
        says("`int told(int what)`: 0 MODE,");
        BlobRuns x = new BlobRuns();
        due("at first", x.told(0), 4);
        x.mode(8);
        due("after mode(8)", x.told(0), 8);
        x.undo(1);
        due("undone", x.told(0), 4);
        says("1 dark DOTS,");
        due("none", x.told(1), 0);
        x.turn(15, 15);
        due("one", x.told(1), 1);
        due("all", dark().told(1), 256);
        BlobRuns rows = new BlobRuns();
        for (int r = 0; r < 16; r++) {
            rows.row(r, (1 << r) - 1);
            due("rows up to " + r, rows.told(1), r * (r + 1) / 2);
        }
        says("2 PARTS,");
        due("none", new BlobRuns().told(2), 0);
        due("one", dark().told(2), 1);
        due("the most by 4", checkers().told(2), 128);
        BlobRuns apart = new BlobRuns();
        apart.mode(8);
        for (int r = 0; r < 16; r += 2) {
            due("row " + r, apart.row(r, 21845), 8 + r / 2 * 8);
        }
        due("the most by 8", apart.told(2), 64);
        says("3 HOLES,");
        due("none in the light", new BlobRuns().told(3), 0);
        due("none in the dark", dark().told(3), 0);
        due("the most by 8", byEight(checkers()).told(3), 98);
        BlobRuns sieve = dark();
        for (int r = 1; r < 15; r += 2) {
            sieve.row(r, 65535 - 10922);
        }
        due("the most by 4", sieve.told(3), 49);
        says("4 LIGHT PARTS,");
        due("all light", new BlobRuns().told(4), 1);
        due("all dark", dark().told(4), 0);
        due("the most", byEight(checkers()).told(4), 128);
        due("holes and open ones", sieve.told(4), 49);
        sieve.turn(0, 0);
        due("joined by a corner", sieve.told(4), 49);
        due("no hole any more", sieve.told(3), 48);
        sieve.turn(15, 9);
        due("open ones of its own", sieve.told(4), 50);
        says("5 EULER (and 1000),");
        due("0", new BlobRuns().told(5), 1000);
        due("above", drawn("#.#").told(5), 1002);
        due("below", sieve.told(5), 1000 + 1 - 48);
        says("6 RUNS,");
        due("none", new BlobRuns().told(6), 0);
        due("from rim to rim, none goes on in the next row", dark().told(6), 16);
        due("the most", checkers().told(6), 128);
        due("the rows together", drawn("#.#", "", "####.#").told(6), 4);
        says("7 RIMS of all together,");
        due("none", new BlobRuns().told(7), 0);
        due("all dark", dark().told(7), 64);
        due("the most", checkers().told(7), 512);
        due("the most by 8", byEight(checkers()).told(7), 512);
        due("three", drawn("#.##", "", "#").told(7), 4 + 6 + 4);
        due("rings", rings().told(7), 64 + 56 + 48 + 40 + 32 + 24 + 16 + 8);
    }

    private static void toldOfParts() {
        says("8 the greatest DEEP (NONE),");
        due("no part", new BlobRuns().told(8), NONE);
        due("in the open", dark().told(8), 0);
        due("an empty hole", drawn("###", "#.#", "###").told(8), 0);
        due("as deep as can be", rings().told(8), 3);
        // The deepest is not the last.
        BlobRuns x = rings();
        x.row(15, 0);
        due("open below", x.told(8), 2);
        BlobRuns nest = drawn(NEST);
        due("the nest", nest.told(8), 2);
        says("9 LARGEST,");
        due("no part", new BlobRuns().told(9), NONE);
        due("all dark", dark().told(9), 0);
        due("all alike", checkers().told(9), 0);
        BlobRuns last = checkers();
        last.turn(15, 14);
        due("the last row joined to the one above", last.told(9), 14 * 8 + 7);
        says("10 how many can be undone.");
        BlobRuns y = new BlobRuns();
        for (int k = 1; k <= 64; k++) {
            y.turn(k % 16, k % 7);
            due("after " + k, y.told(10), Math.min(k, 30));
        }
        for (int k = 29; k >= 0; k--) {
            y.undo(1);
            due("undone down to " + k, y.told(10), k);
        }
        y.drift(29);
        due("after drift(29)", y.told(10), 29);
        y.drift(2);
        due("after drift(2)", y.told(10), 30);
        y.keep(0);
        due("after keep(0)", y.told(10), 0);
        y.over();
        y.goBack(0);
        due("after goBack(0)", y.told(10), 0);
        says("OUTSIDE.");
        ofPromise(2);
    }

    private static void rowAt() {
        says("`int rowAt(int r, int what)`: Dark COLUMNS of a ROW (a SET);");
        for (int r = 0; r < 16; r++) {
            BlobRuns x = new BlobRuns();
            for (int set : new int[] {0, 1, 32768, 65535, 32769, 21845}) {
                x.row(r, set);
                due("rowAt(" + r + ", 0)", x.rowAt(r, 0), set);
                due("another row", x.rowAt((r + 1) % 16, 0), 0);
            }
        }
        says("what = 1 its RUNS.");
        for (int r = 0; r < 16; r++) {
            BlobRuns x = new BlobRuns();
            int[][] sets = {{0, 0}, {1, 1}, {32768, 1}, {65535, 1}, {32769, 2}, {21845, 8}, {43690, 8}, {65533, 2}, {49155, 2}};
            for (int[] set : sets) {
                x.row(r, set[0]);
                due("rowAt(" + r + ", 1) of " + set[0], x.rowAt(r, 1), set[1]);
                due("another row", x.rowAt((r + 15) % 16, 1), 0);
            }
        }
        says("UNKNOWN, OUTSIDE (what 0, 1).");
        ofPromise(3);
    }

    private static void dot() {
        says("`int dot(int r, int c, int what)`: Of a DOT: what = 0 1 it is dark, 0 light,");
        BlobRuns x = drawn(NEST);
        for (int place = 0; place < 256; place++) {
            int dark = NEST[place / 16].charAt(place % 16) == '#' ? 1 : 0;
            due("dot of " + place, x.dot(place / 16, place % 16, 0), dark);
        }
        says("1 the PART,");
        BlobRuns many = checkers();
        for (int place = 0; place < 256; place++) {
            int r = place / 16, c = place % 16;
            due("the part of " + place, many.dot(r, c, 1), (r + c) % 2 == 0 ? r * 8 + c / 2 : NONE);
        }
        says("2 the HOLE,");
        BlobRuns holed = byEight(checkers());
        for (int place = 0; place < 256; place++) {
            int r = place / 16, c = place % 16;
            boolean hole = (r + c) % 2 == 1 && r > 0 && r < 15 && c > 0 && c < 15;
            due("the hole of " + place, holed.dot(r, c, 2), hole ? (r - 1) * 7 + (c - 1) / 2 : NONE);
        }
        says("3 JOINS,");
        BlobRuns star = drawn(".#.", "#.#", ".#.");
        due("four by 4", star.dot(1, 1, 3), 4);
        due("one by 8", byEight(star).dot(1, 1, 3), 1);
        BlobRuns corners = drawn("#.#", "...", "#.#");
        due("none by 4", corners.dot(1, 1, 3), 0);
        due("four by 8", byEight(corners).dot(1, 1, 3), 4);
        due("in a corner", drawn(".#", "#").dot(0, 0, 3), 2);
        due("a hole", drawn("###", "#.#", "###").dot(1, 1, 3), 1);
        says("4 SPLITS");
        due("it is all", drawn("#").dot(0, 0, 4), 0);
        due("an end", drawn("##").dot(0, 0, 4), 1);
        due("between", drawn("###").dot(0, 1, 4), 2);
        due("a cross", drawn(".#.", "###", ".#.").dot(1, 1, 4), 4);
        due("a cross by 8", byEight(drawn(".#.", "###", ".#.")).dot(1, 1, 4), 1);
        due("corners by 8", byEight(drawn("#.#", ".#.", "#.#")).dot(1, 1, 4), 4);
        due("corners by 4", drawn("#.#", ".#.", "#.#").dot(1, 1, 4), 0);
        due("all dark", dark().dot(7, 7, 4), 1);
        says("(1, 4: NONE, if it is light; 2, 3: NONE, if it is dark; 2: NONE, if it is OPEN).");
        BlobRuns ring = drawn("###", "#.#", "###");
        dots(ring, 1, 1, 0, NONE, 0, 1, NONE);
        dots(ring, 0, 0, 1, 0, NONE, NONE, 1);
        dots(ring, 15, 15, 0, NONE, NONE, 0, NONE);
        dots(ring, 0, 3, 0, NONE, NONE, 1, NONE);
        dots(ring, 2, 2, 1, 0, NONE, NONE, 1);
        says("UNKNOWN, OUTSIDE.");
        ofPromise(4);
    }

    private static void part() {
        says("`int part(int p, int what)`: Of a PART: what = 0 SIZE,");
        BlobRuns x = drawn(NEST);
        int[][] want = {{40, 78, 1, 9, 1, 11, 2, NONE, 0, 17}, {1, 4, 2, 2, 14, 14, 0, NONE, 0, 46}, {16, 32, 3, 7, 3, 7, 1, 0, 1, 51},
            {1, 4, 5, 5, 5, 5, 0, 2, 2, 85}, {1, 4, 5, 5, 14, 14, 0, NONE, 0, 94}, {3, 8, 11, 12, 2, 3, 0, NONE, 0, 178},
            {3, 8, 11, 12, 8, 9, 0, NONE, 0, 184}, {3, 8, 15, 15, 0, 2, 0, NONE, 0, 240}};
        column(x, want, 0);
        due("the most", dark().part(0, 0), 256);
        says("1 RIM,");
        column(x, want, 1);
        due("checkers by 8", byEight(checkers()).part(0, 1), 512);
        says("2, 3 the least, the greatest ROW,");
        column(x, want, 2);
        column(x, want, 3);
        due("the least of all", dark().part(0, 2), 0);
        due("the greatest of all", dark().part(0, 3), 15);
        says("4, 5 COLUMN,");
        column(x, want, 4);
        column(x, want, 5);
        due("the least of all", dark().part(0, 4), 0);
        due("the greatest of all", dark().part(0, 5), 15);
        says("6 how many HOLES are OF it,");
        column(x, want, 6);
        due("none", dark().part(0, 6), 0);
        due("the most", byEight(checkers()).part(0, 6), 98);
        says("7 the HOLE it lies in (NONE),");
        column(x, want, 7);
        for (int p = 0; p < 4; p++) {
            due("rings: part(" + p + ", 7)", rings().part(p, 7), p - 1);
        }
        says("8 DEEP,");
        column(x, want, 8);
        says("9 its least PLACE.");
        column(x, want, 9);
        due("the last place", oneDot(15, 15).part(0, 9), 255);
        due("the first place", dark().part(0, 9), 0);
        says("UNKNOWN, OUTSIDE.");
        ofPromise(5);
    }

    private static void column(BlobRuns x, int[][] want, int what) {
        for (int p = 0; p < want.length; p++) {
            due("part(" + p + ", " + what + ")", x.part(p, what), want[p][what]);
        }
    }

    private static void hole() {
        says("`int hole(int h, int what)`: Of a HOLE: what = 0 SIZE,");
        BlobRuns x = drawn(NEST);
        due("hole(0, 0), less what lies in it", x.hole(0, 0), 32);
        due("hole(1, 0)", x.hole(1, 0), 2);
        due("hole(2, 0)", x.hole(2, 0), 8);
        says("1 the PART that it is OF,");
        due("hole(0, 1)", x.hole(0, 1), 0);
        due("hole(1, 1)", x.hole(1, 1), 0);
        due("hole(2, 1)", x.hole(2, 1), 2);
        says("2 how many PARTS lie in it,");
        due("hole(0, 2): what lies deeper does not count", x.hole(0, 2), 1);
        due("hole(1, 2)", x.hole(1, 2), 0);
        due("hole(2, 2)", x.hole(2, 2), 1);
        BlobRuns crowd = dark();
        for (int r = 1; r < 15; r++) {
            crowd.row(r, r % 2 == 0 ? 32769 + 5460 : 32769);
        }
        due("many, less those that touch the frame below", crowd.hole(0, 2), 36);
        says("3 its least PLACE.");
        due("hole(0, 3)", x.hole(0, 3), 34);
        due("hole(1, 3)", x.hole(1, 3), 42);
        due("hole(2, 3)", x.hole(2, 3), 68);
        due("the least that can be", crowd.hole(0, 3), 17);
        BlobRuns last = dark();
        last.turn(14, 14);
        due("the greatest that can be", last.hole(0, 3), 238);
        // The least place is in the least row, even if another of its dots is further left.
        due("further left below", drawn("...###", "...#.#", "####.#", "#....#", "######").hole(0, 3), 20);
        says("UNKNOWN, OUTSIDE.");
        ofPromise(6);
    }

    // ---- deeds

    private static void row() {
        says("`int row(int r, int set)`: ROW (a SET, 0 .. 65535): PARTS then.");
        for (int r = 0; r < 16; r++) {
            BlobRuns x = new BlobRuns();
            due("row(" + r + ", 65535)", x.row(r, 65535), 1);
            due("it is so", x.rowAt(r, 0), 65535);
            due("row(" + r + ", 0)", x.row(r, 0), 0);
            due("it is so", x.rowAt(r, 0), 0);
            due("row(" + r + ", 21845)", x.row(r, 21845), 8);
            due("deeds", x.told(10), 3);
        }
        BlobRuns y = drawn("#.#.#", "", "#.#.#");
        due("parts of all rows", y.row(1, 4), 5);
        due("by 8", byEight(y).row(1, 2), 3);
        says("UNKNOWN, OUTSIDE.");
        ofPromise(7);
    }

    private static void turn() {
        says("`int turn(int r, int c)`: TURNED: 1 it is dark then, 0 light.");
        for (int place = 0; place < 256; place++) {
            BlobRuns x = new BlobRuns();
            int r = place / 16, c = place % 16;
            due("turn at " + place, x.turn(r, c), 1);
            due("it is dark", x.dot(r, c, 0), 1);
            due("alone", x.told(1), 1);
            due("turn at " + place + " again", x.turn(r, c), 0);
            due("it is light", x.dot(r, c, 0), 0);
            due("deeds", x.told(10), 2);
        }
        says("UNKNOWN.");
        ofPromise(8);
    }

    private static void wipe() {
        says("`int wipe(int p)`: WIPED OUT: SIZE.");
        due("all", dark().wipe(0), 256);
        BlobRuns x = drawn(NEST);
        due("the last", x.wipe(7), 3);
        due("its row", x.rowAt(15, 0), 0);
        due("the first", x.wipe(0), 40);
        due("those behind it are one less each", x.wipe(1), 16);
        due("those that are left", x.told(2), 5);
        due("their dots", x.told(1), 68 - 3 - 40 - 16);
        due("deeds", x.told(10), 19);
        due("undone", x.undo(3), 68);
        shows("undone", x, NEST);
        BlobRuns y = checkers();
        for (int k = 127; k >= 0; k--) {
            due("wipe(" + k + ")", y.wipe(k), 1);
        }
        due("nothing is left", y.wipe(0), UNKNOWN);
        says("UNKNOWN.");
        ofPromise(9);
    }

    private static void fill() {
        says("`int fill(int h)`: FILLED: SIZE.");
        BlobRuns x = drawn(NEST);
        due("the last", x.fill(2), 8);
        due("those that are left", x.told(3), 2);
        due("it is one with what lay in it", x.part(2, 0), 25);
        due("the first", x.fill(0), 32);
        due("deeds", x.told(10), 18);
        due("undone", x.undo(2), 68);
        shows("undone", x, NEST);
        BlobRuns y = byEight(checkers());
        for (int h = 97; h >= 0; h--) {
            due("fill(" + h + ")", y.fill(h), 1);
        }
        due("none is left", y.fill(0), UNKNOWN);
        due("the rim stays", y.told(1), 128 + 98);
        BlobRuns wide = new BlobRuns();
        wide.row(0, 65535);
        wide.row(15, 65535);
        for (int r = 1; r < 15; r++) {
            wide.row(r, 32769);
        }
        due("the largest", wide.fill(0), 196);
        due("all is dark", wide.told(1), 256);
        says("UNKNOWN.");
        ofPromise(10);
    }

    private static void grow() {
        says("`int grow()`: GROWN: how many became dark.");
        due("of nothing", new BlobRuns().grow(), 0);
        due("of all", dark().grow(), 0);
        due("of one", oneDot(7, 7).grow(), 4);
        due("of one by 8", byEight(oneDot(7, 7)).grow(), 8);
        due("in a corner", oneDot(15, 15).grow(), 2);
        due("in a corner by 8", byEight(oneDot(0, 15)).grow(), 3);
        due("of checkers", checkers().grow(), 128);
        BlobRuns x = oneDot(0, 0);
        int dots = 1;
        for (int k = 1; k <= 30; k++) {
            int most = Math.min(k + 1, 31 - k);
            due("for the time " + k, x.grow(), most);
            dots += most;
        }
        due("all is dark then", dots, 256);
        due("no more", x.grow(), 0);
        due("deeds", x.told(10), 30);
    }

    private static void shrink() {
        says("`int shrink()`: SHRUNK: how many became light.");
        due("of nothing", new BlobRuns().shrink(), 0);
        due("of one", oneDot(7, 7).shrink(), 1);
        due("of checkers", checkers().shrink(), 128);
        due("of all: beyond the rim there is none", dark().shrink(), 60);
        due("of all by 8", byEight(dark()).shrink(), 60);
        BlobRuns plus = drawn("", "..#..", ".###.", "..#..");
        due("of a plus", plus.shrink(), 4);
        shows("of a plus", plus, "", "", "..#..");
        BlobRuns none = byEight(drawn("", "..#..", ".###.", "..#.."));
        due("of a plus by 8", none.shrink(), 5);
        due("deeds", none.told(10), 6);
        due("undone", none.undo(1), 5);
    }

    private static void move() {
        says("`int move(int down, int right)`: MOVED (-15 .. 15 each; down, to the right): dark DOTS then.");
        int[][] ways = {{15, 15, 0}, {15, -15, 15}, {-15, 15, 240}, {-15, -15, 255}};
        for (int[] way : ways) {
            BlobRuns x = new BlobRuns();
            x.turn(way[2] / 16, way[2] % 16);
            String call = "move(" + way[0] + ", " + way[1] + ")";
            due(call, x.move(way[0], way[1]), 1);
            due(call + " from corner to corner", x.part(0, 9), 255 - way[2]);
            due("once more", x.move(way[0], way[1]), 0);
            due("what is lost does not come back", x.move(-way[0], -way[1]), 0);
            due("deeds", x.told(10), 4);
        }
        BlobRuns y = oneDot(4, 4);
        y.move(1, 0);
        due("down", y.part(0, 9), 84);
        y.move(0, 1);
        due("to the right", y.part(0, 9), 85);
        y.move(-2, 0);
        due("up", y.part(0, 9), 53);
        y.move(0, -3);
        due("to the left", y.part(0, 9), 50);
        due("not at all", y.move(0, 0), 1);
        due("not at all", y.part(0, 9), 50);
        due("deeds", y.told(10), 6);
        // Beyond the right rim nothing comes in at the left of the next row.
        BlobRuns rim = new BlobRuns();
        rim.row(3, 49152);
        due("over the right rim", rim.move(0, 1), 1);
        due("over the right rim", rim.told(6), 1);
        due("over the right rim", rim.rowAt(3, 0), 32768);
        says("OUTSIDE.");
        ofPromise(13);
    }

    private static void over() {
        says("`int over()`: OVER: dark DOTS then.");
        due("of nothing", new BlobRuns().over(), 256);
        due("of all", dark().over(), 0);
        due("of half", checkers().over(), 128);
        BlobRuns x = byEight(drawn(NEST));
        due("of the nest", x.over(), 188);
        due("its mode", x.told(0), 8);
        due("deeds", x.told(10), 18);
        due("back", x.over(), 68);
        shows("back", x, NEST);
    }

    private static void mode() {
        says("`int mode(int m)`: MODE (4, 8): PARTS then.");
        BlobRuns x = checkers();
        due("mode(8)", x.mode(8), 1);
        due("mode(4)", x.mode(4), 128);
        due("deeds", x.told(10), 18);
        due("of nothing", new BlobRuns().mode(8), 0);
        due("dots stay", x.told(1), 128);
        says("OUTSIDE, NOT: it is so.");
        ofPromise(15);
        due("mode(4), it is so again", x.mode(4), NOT);
        x.mode(8);
        due("mode(8), it is so", x.mode(8), NOT);
        x.undo(1);
        due("mode(4), it is so by undo", x.mode(4), NOT);
        due("mode(8), it is no more", x.mode(8), 1);
    }

    private static void drift() {
        says("`int drift(int n)`: n times BY DRAWS (1 .. 60): dark DOTS.");
        for (int seed : new int[] {0, 1, 999, MAX}) {
            for (int n = 1; n <= 60; n++) {
                BlobRuns x = new BlobRuns();
                Model model = new Model();
                x.seed(seed);
                model.seed(seed);
                due("drift(" + n + ") from " + seed, x.drift(n), model.drift(n));
                due("deeds", x.told(10), Math.min(n, 30));
                for (int r = 0; r < 16; r++) {
                    due("rowAt(" + r + ", 0)", x.rowAt(r, 0), model.rowAt(r, 0));
                }
                due("the seed then", x.seed(0), model.seed(0));
            }
        }
        says("OUTSIDE.");
        ofPromise(16);
    }

    private static void undo() {
        says("`int undo(int n)`: The n latest (1 .. 30) are undone: dark DOTS.");
        for (int n = 1; n <= 30; n++) {
            BlobRuns x = new BlobRuns();
            List<Integer> before = new ArrayList<>();
            for (int k = 0; k < 40; k++) {
                before = k == 40 - n ? pictureAndMode(x) : before;
                if (k % 7 == 3) {
                    x.mode(12 - x.told(0));
                } else {
                    x.turn(k % 16, k / 2 % 16);
                }
            }
            int dots = 0;
            for (int r = 0; r < 16; r++) {
                dots += Integer.bitCount(before.get(r));
            }
            due("undo(" + n + ")", x.undo(n), dots);
            holds("undo(" + n + "): picture and mode", pictureAndMode(x).equals(before));
            due("undo(" + n + "): told(10)", x.told(10), 30 - n);
        }
        BlobRuns parts = drawn("#.#", "###");
        due("parts, asked ahead", parts.told(2), 1);
        parts.undo(1);
        due("parts, asked then", parts.told(2), 2);
        says("OUTSIDE, NOT: not so many.");
        ofPromise(17);
        BlobRuns x = new BlobRuns();
        for (int k = 0; k < 31; k++) {
            due("after " + k + ", one more", x.undo(k + 1), k < 30 ? NOT : OUTSIDE);
            x.turn(0, k % 16);
        }
        due("all that are kept", x.undo(30), 1);
        due("the oldest is not kept", x.undo(1), NOT);
    }

    // ---- asked

    private static void alike() {
        says("`int alike(int p, int q)`: ALIKE.");
        BlobRuns many = checkers();
        due("dots", many.alike(0, 127), 1);
        due("dots", many.alike(127, 0), 1);
        due("dots", many.alike(63, 64), 1);
        BlobRuns x = drawn("##.##.##", "#...#.#.", "......##");
        due("of one size, turned over", x.alike(0, 1), 0);
        due("less", x.alike(0, 2), 0);
        due("more", x.alike(2, 0), 0);
        BlobRuns holed = drawn("###.###", "#.#.###", "###.###");
        due("a hole in it", holed.alike(0, 1), 0);
        holed.fill(0);
        due("it is filled", holed.alike(0, 1), 1);
        BlobRuns wide = new BlobRuns();
        wide.row(0, 65535);
        wide.row(15, 65535);
        due("from rim to rim", wide.alike(0, 1), 1);
        wide.row(14, 1);
        due("one more at the left", wide.alike(0, 1), 0);
        says("UNKNOWN.");
        ofPromise(18);
    }

    private static void small() {
        says("`int small(int n)`: SMALL (n 0 .. 256).");
        due("small(0)", checkers().small(0), 0);
        due("small(1)", checkers().small(1), 128);
        due("small(256)", checkers().small(256), 128);
        due("small(255) of all", dark().small(255), 0);
        due("small(256) of all", dark().small(256), 1);
        due("small(256) of nothing", new BlobRuns().small(256), 0);
        due("small(0) of nothing", new BlobRuns().small(0), 0);
        for (int n = 0; n <= 256; n++) {
            int want = (n >= 60 ? 1 : 0) + (n >= 44 ? 1 : 0) + (n >= 28 ? 1 : 0) + (n >= 12 ? 1 : 0);
            due("rings: small(" + n + ")", rings().small(n), want);
        }
        says("OUTSIDE.");
        ofPromise(19);
    }

    // ---- images

    private static void seed() {
        says("`int seed(int v)`: THE SEED becomes v (0 .. 2147483647): what it was.");
        BlobRuns x = new BlobRuns();
        due("at first", x.seed(2147483647), 0);
        due("the greatest", x.seed(0), 2147483647);
        due("the least", x.seed(1), 0);
        due("the same", x.seed(1), 1);
        due("the same", x.seed(2147483646), 1);
        due("no deed", x.told(10), 0);
        due("the picture", x.told(1), 0);
        x.seed(0);
        x.drift(1);
        due("after a draw", x.seed(0), 12345);
        x.undo(1);
        due("no undo brings it back", x.seed(0), 0);
        says("OUTSIDE.");
        ofPromise(20);
    }

    private static void keep() {
        says("`int keep(int i)`: IMAGE i becomes what is so (nothing can be undone then): 1.");
        for (int i = 0; i < 2; i++) {
            BlobRuns x = byEight(drawn(NEST));
            x.seed(31);
            List<Integer> before = pictureAndMode(x);
            due("keep(" + i + ")", x.keep(i), 1);
            due("told(10)", x.told(10), 0);
            due("undo(1)", x.undo(1), NOT);
            holds("what is so stays", pictureAndMode(x).equals(before));
            due("the seed stays", seedOf(x), 31);
            due("the other is not kept", x.goBack(1 - i), NOT);
            x.over();
            x.mode(4);
            x.seed(8);
            due("the other, too", x.keep(1 - i), 1);
            x.goBack(i);
            holds("goBack(" + i + ")", pictureAndMode(x).equals(before));
            x.row(0, 3);
            List<Integer> later = pictureAndMode(x);
            due("keep(" + i + ") again", x.keep(i), 1);
            x.wipe(0);
            x.goBack(i);
            holds("goBack(" + i + "): the later one", pictureAndMode(x).equals(later));
            x.goBack(1 - i);
            due("the other as it was", x.told(1), 188);
            due("its mode", x.told(0), 4);
            due("its seed", seedOf(x), 8);
            due("keep with nothing to undo", x.keep(i), 1);
        }
        says("UNKNOWN.");
        ofPromise(21);
    }

    private static void goBack() {
        says("`int goBack(int i)`: What is so becomes IMAGE i (nothing can be undone then): 1.");
        for (int i = 0; i < 2; i++) {
            BlobRuns x = new BlobRuns();
            x.row(9, 21845);
            x.seed(5);
            x.keep(i);
            x.drift(40);
            x.mode(8);
            due("goBack(" + i + ")", x.goBack(i), 1);
            tells("goBack(" + i + ")", x, 4, 8, 8, 0, 1, 1008, 8, 32, 0, 0, 0);
            due("rowAt(9, 0)", x.rowAt(9, 0), 21845);
            due("undo(1)", x.undo(1), NOT);
            due("the seed", x.seed(6), 5);
            x.over();
            due("goBack(" + i + ") again", x.goBack(i), 1);
            tells("goBack(" + i + ") again", x, 4, 8, 8, 0, 1, 1008, 8, 32, 0, 0, 0);
            due("the seed again", x.seed(6), 5);
            due("goBack with nothing done", x.goBack(i), 1);
        }
        says("UNKNOWN, NOT: it was not kept.");
        ofPromise(22);
    }
}
