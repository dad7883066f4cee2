import java.math.BigInteger;
import java.util.ArrayList;
import java.util.List;
import java.util.function.ToIntFunction;

/** Each promise of the document by itself: ordinary inputs, the edges that it names, and wrong inputs. */
public final class PromiseTest extends Check {
    public static void main(String[] args) {
        promise1();
        promise2();
        promise2Most();
        promise3();
        promise4();
        promise4Edges();
        promise5();
        promise6();
        promise7();
        promise8();
        promise9();
        promise10();
        promise11();
        promise12();
        promise13();
        promise14();
        promise15();
        promise16();
        promise17();
        promise17Deeds();
        promise18();
        promise19();
        promise20();
        promise21();
        promise22();
        end();
    }

    // ---- the tools

    private interface Call {
        int of(BlobRuns x, int v);
    }

    /** A call answers so, and changes nothing. */
    private static void refused(String call, BlobRuns x, ToIntFunction<BlobRuns> made, int want) {
        refused(call, x, want, (o, v) -> made.applyAsInt(o), 0);
    }

    /** A call is refused in this way for each of the values, and changes nothing. */
    private static void refused(String call, BlobRuns x, int want, Call made, int... values) {
        List<Integer> before = seen(x);
        for (int v : values) {
            due(call + " with " + v, made.of(x, v), want);
        }
        due(call + " changes something", seen(x).equals(before) ? 0 : 1, 0);
    }

    // ---- the picture

    private static void promise1() {
        about("promise 1");
        BlobRuns x = new BlobRuns();
        shows("new", x);
        int[] told = {4, 0, 0, 0, 1, 1000, 0, 0, NONE, NONE, 0};
        for (int what = 0; what < told.length; what++) {
            due("told(" + what + ")", x.told(what), told[what]);
        }
        due("goBack(0)", x.goBack(0), NOT);
        due("goBack(1)", x.goBack(1), NOT);
        due("seed(7)", x.seed(7), 0);
        BlobRuns y = new BlobRuns();
        due("seed of another object", y.seed(1), 0);
        x.turn(0, 0);
        due("dots of another object", y.told(1), 0);
    }

    private static void promise2() {
        about("promise 2");
        BlobRuns x = drawn(NEST);
        int[] told = {4, 68, 8, 3, 4, 1005, 34, 146, 2, 0, 16};
        for (int what = 0; what < told.length; what++) {
            due("told(" + what + ")", x.told(what), told[what]);
        }
        refused("told(?)", x, OUTSIDE, (o, v) -> o.told(v), -1, 11, MIN, MAX);
        x.mode(8);
        due("told(0) by mode 8", x.told(0), 8);
        // Like ones: the least. A larger one behind them: that one.
        BlobRuns like = drawn("#.##.##.###.###.");
        due("told(9) of like ones", like.told(9), 3);
        due("told(8), none is deep", like.told(8), 0);
    }

    private static void promise2Most() {
        about("promise 2");
        BlobRuns x = new BlobRuns();
        for (int r = 0; r < 16; r++) {
            x.row(r, r % 2 == 0 ? 21845 : 43690);
        }
        int[] byFour = {4, 128, 128, 0, 1, 1128, 128, 512, 0, 0, 16};
        int[] byEight = {8, 128, 1, 98, 128, 903, 128, 512, 0, 0, 17};
        for (int what = 0; what < 11; what++) {
            due("checkers by 4: told(" + what + ")", x.told(what), byFour[what]);
        }
        x.mode(8);
        for (int what = 0; what < 11; what++) {
            due("checkers by 8: told(" + what + ")", x.told(what), byEight[what]);
        }
        int[] full = {4, 256, 1, 0, 0, 1001, 16, 64, 0, 0, 16};
        BlobRuns y = dark();
        for (int what = 0; what < 11; what++) {
            due("all dark: told(" + what + ")", y.told(what), full[what]);
        }
        // Rings in rings, as deep as 16 rows can have them.
        BlobRuns z = new BlobRuns();
        for (int r = 0; r < 16; r++) {
            int set = 0;
            for (int c = 0; c < 16; c++) {
                int ring = Math.min(Math.min(r, 15 - r), Math.min(c, 15 - c));
                set |= ring % 2 == 0 ? 1 << c : 0;
            }
            z.row(r, set);
        }
        int[] rings = {4, 144, 4, 4, 4, 1000};
        for (int what = 0; what < rings.length; what++) {
            due("rings: told(" + what + ")", z.told(what), rings[what]);
        }
        due("rings: told(7)", z.told(7), 64 + 56 + 48 + 40 + 32 + 24 + 16 + 8);
        due("rings: told(8)", z.told(8), 3);
    }

    private static void promise3() {
        about("promise 3");
        BlobRuns x = new BlobRuns();
        int[] sets = {0, 65535, 21845, 43690, 32769, 1, 32768, 61455, 27030};
        int[] runs = {0, 1, 8, 8, 2, 1, 1, 2, 5};
        for (int k = 0; k < sets.length; k++) {
            int r = k == 0 ? 15 : k;
            x.row(r, sets[k]);
            due("rowAt(" + r + ", 0) of " + sets[k], x.rowAt(r, 0), sets[k]);
            due("rowAt(" + r + ", 1) of " + sets[k], x.rowAt(r, 1), runs[k]);
        }
        refused("rowAt(?, 0)", x, UNKNOWN, (o, v) -> o.rowAt(v, 0), -1, 16, MIN, MAX);
        refused("rowAt(?, 2)", x, UNKNOWN, (o, v) -> o.rowAt(v, 2), -1, 16, MIN, MAX);
        refused("rowAt(0, ?)", x, OUTSIDE, (o, v) -> o.rowAt(0, v), -1, 2, MIN, MAX);
    }

    private static void promise4() {
        about("promise 4");
        BlobRuns x = drawn(NEST);
        dots(x, 1, 1, 1, 0, NONE, NONE, 1);
        dots(x, 4, 10, 1, 0, NONE, NONE, 1);
        dots(x, 2, 2, 0, NONE, 0, 1, NONE);
        dots(x, 2, 10, 0, NONE, 1, 1, NONE);
        dots(x, 5, 4, 0, NONE, 2, 2, NONE);
        dots(x, 5, 5, 1, 3, NONE, NONE, 0);
        dots(x, 0, 0, 0, NONE, NONE, 0, NONE);
        dots(x, 11, 2, 1, 5, NONE, NONE, 2);
        dots(x, 15, 1, 1, 7, NONE, NONE, 2);
        dots(x, 15, 0, 1, 7, NONE, NONE, 1);
        dots(x, 15, 3, 0, NONE, NONE, 1, NONE);
        refused("dot(?, 0, 0)", x, UNKNOWN, (o, v) -> o.dot(v, 0, 0), -1, 16, MIN, MAX);
        refused("dot(0, ?, 0)", x, UNKNOWN, (o, v) -> o.dot(0, v, 0), -1, 16, MIN, MAX);
        refused("dot(0, ?, 9)", x, UNKNOWN, (o, v) -> o.dot(0, v, 9), -1, 16, MIN, MAX);
        refused("dot(1, 1, ?)", x, OUTSIDE, (o, v) -> o.dot(1, 1, v), -1, 5, MIN, MAX);
        refused("dot(0, 0, ?)", x, OUTSIDE, (o, v) -> o.dot(0, 0, v), -1, 5, MIN, MAX);
        refused("dot(5, 5, 4)", x, o -> o.dot(5, 5, 4), 0);
        refused("dot(1, 5, 4)", x, o -> o.dot(1, 5, 4), 1);
    }

    private static void promise4Edges() {
        about("promise 4");
        BlobRuns star = drawn("#.#", ".#.", "#.#");
        dots(star, 1, 1, 1, 2, NONE, NONE, 0);
        dots(star, 0, 1, 0, NONE, NONE, 3, NONE);
        star.mode(8);
        dots(star, 1, 1, 1, 0, NONE, NONE, 4);
        dots(star, 0, 1, 0, NONE, NONE, 1, NONE);
        dots(star, 0, 0, 1, 0, NONE, NONE, 1);
        BlobRuns four = drawn(".#.", "#.#", ".#.");
        dots(four, 1, 1, 0, NONE, NONE, 4, NONE);
        dots(four, 0, 0, 0, NONE, NONE, 2, NONE);
        four.mode(8);
        dots(four, 1, 1, 0, NONE, 0, 1, NONE);
        BlobRuns apart = drawn("#...#", ".....", "..#..", ".....", "#...#");
        apart.mode(8);
        dots(apart, 1, 1, 0, NONE, NONE, 2, NONE);
        dots(apart, 3, 3, 0, NONE, NONE, 2, NONE);
        BlobRuns corners = drawn("#.#", "...", "#.#");
        corners.mode(8);
        dots(corners, 1, 1, 0, NONE, NONE, 4, NONE);
        corners.mode(4);
        dots(corners, 1, 1, 0, NONE, NONE, 0, NONE);
        // Beyond the right rim nothing of the next row is near.
        BlobRuns rim = drawn("................", "#...............", "...............#");
        dots(rim, 0, 15, 0, NONE, NONE, 0, NONE);
        rim.mode(8);
        dots(rim, 0, 15, 0, NONE, NONE, 0, NONE);
        dots(rim, 3, 0, 0, NONE, NONE, 0, NONE);
        dots(rim, 3, 15, 0, NONE, NONE, 1, NONE);
        dots(rim, 15, 15, 0, NONE, NONE, 0, NONE);
        // Two columns off is not near, and a part that is near twice counts once.
        BlobRuns off = drawn("#...#....#.#....", ".........###....");
        dots(off, 0, 2, 0, NONE, NONE, 0, NONE);
        dots(off, 0, 10, 0, NONE, NONE, 1, NONE);
        dots(off, 0, 6, 0, NONE, NONE, 0, NONE);
    }

    private static void promise5() {
        about("promise 5");
        BlobRuns x = drawn(NEST);
        parts(x, 0, 40, 78, 1, 9, 1, 11, 2, NONE, 0, 17);
        parts(x, 1, 1, 4, 2, 2, 14, 14, 0, NONE, 0, 46);
        parts(x, 2, 16, 32, 3, 7, 3, 7, 1, 0, 1, 51);
        parts(x, 3, 1, 4, 5, 5, 5, 5, 0, 2, 2, 85);
        parts(x, 4, 1, 4, 5, 5, 14, 14, 0, NONE, 0, 94);
        parts(x, 5, 3, 8, 11, 12, 2, 3, 0, NONE, 0, 178);
        parts(x, 7, 3, 8, 15, 15, 0, 2, 0, NONE, 0, 240);
        refused("part(?, 0)", x, UNKNOWN, (o, v) -> o.part(v, 0), -1, 8, 255, 256, MIN, MAX);
        refused("part(?, 10)", x, UNKNOWN, (o, v) -> o.part(v, 10), -1, 8, 255, 256, MIN, MAX);
        refused("part(0, ?)", x, OUTSIDE, (o, v) -> o.part(0, v), -1, 10, MIN, MAX);
        refused("part(0, 0) of nothing", new BlobRuns(), o -> o.part(0, 0), UNKNOWN);
        // A hole whose first row lies left of the part's least place; a part that widens below.
        BlobRuns y = drawn("......", "....#.", ".####.", ".#..#.", ".####.");
        parts(y, 0, 11, 22, 1, 4, 1, 4, 1, NONE, 0, 20);
        // By corners a part is one that falls apart by sides.
        BlobRuns z = drawn("#......#", ".#....#.", "..####..");
        due("told(2)", z.told(2), 5);
        z.mode(8);
        parts(z, 0, 8, 26, 0, 2, 0, 7, 0, NONE, 0, 0);
        // By corners two columns off is too far.
        BlobRuns far = drawn("#.....#", "..#.#..", "#.....#");
        due("told(2)", far.told(2), 6);
        far.mode(8);
        due("told(2) by 8", far.told(2), 6);
        // A part that becomes smaller has its box anew.
        BlobRuns w = drawn("################", "###");
        parts(w, 0, 19, 36, 0, 1, 0, 15, 0, NONE, 0, 0);
        w.row(0, 2);
        w.row(1, 2);
        parts(w, 0, 2, 6, 0, 1, 1, 1, 0, NONE, 0, 1);
        parts(drawn("#", "#"), 0, 2, 6, 0, 1, 0, 0, 0, NONE, 0, 0);
    }

    private static void promise6() {
        about("promise 6");
        BlobRuns x = drawn(NEST);
        int[][] want = {{32, 0, 1, 34}, {2, 0, 0, 42}, {8, 2, 1, 68}};
        for (int h = 0; h < 3; h++) {
            for (int what = 0; what < 4; what++) {
                due("hole(" + h + ", " + what + ")", x.hole(h, what), want[h][what]);
            }
        }
        refused("hole(?, 0)", x, UNKNOWN, (o, v) -> o.hole(v, 0), -1, 3, 255, 256, MIN, MAX);
        refused("hole(?, 4)", x, UNKNOWN, (o, v) -> o.hole(v, 4), -1, 3, 255, 256, MIN, MAX);
        refused("hole(0, ?)", x, OUTSIDE, (o, v) -> o.hole(0, v), -1, 4, MIN, MAX);
        // What the rim reaches is open; one row further in it is a hole. By 8 corners do not open it.
        due("open at row 0", drawn("#.#", "###").told(3), 0);
        due("closed below row 0", drawn("###", "#.#", "###").told(3), 1);
        due("open at column 0", drawn("##", ".#", "##").told(3), 0);
        BlobRuns right = new BlobRuns();
        right.row(3, 49152);
        right.row(4, 16384);
        right.row(5, 49152);
        due("open at column 15", right.told(3), 0);
        BlobRuns low = new BlobRuns();
        low.row(14, 14);
        low.row(15, 10);
        due("open at row 15", low.told(3), 0);
        BlobRuns diamond = drawn(".#.", "#.#", ".#.");
        due("a diamond by 4", diamond.told(3), 0);
        diamond.mode(8);
        due("a diamond by 8", diamond.told(3), 1);
        due("a diamond by 8: hole(0, 1)", diamond.hole(0, 1), 0);
    }

    // ---- deeds

    private static void promise7() {
        about("promise 7");
        BlobRuns x = new BlobRuns();
        due("row(0, 5)", x.row(0, 5), 2);
        due("row(1, 7)", x.row(1, 7), 1);
        due("row(15, 65535)", x.row(15, 65535), 2);
        due("row(1, 0)", x.row(1, 0), 3);
        due("row(1, 0) again", x.row(1, 0), 3);
        due("told(10)", x.told(10), 5);
        due("rowAt(15, 0)", x.rowAt(15, 0), 65535);
        due("rowAt(0, 0)", x.rowAt(0, 0), 5);
        refused("row(?, 0)", x, UNKNOWN, (o, v) -> o.row(v, 0), -1, 16, MIN, MAX);
        refused("row(?, -1)", x, UNKNOWN, (o, v) -> o.row(v, -1), -1, 16, MIN, MAX);
        refused("row(0, ?)", x, OUTSIDE, (o, v) -> o.row(0, v), -1, 65536, MIN, MAX);
        x.mode(8);
        due("row(1, 2) by 8", x.row(1, 2), 2);
    }

    private static void promise8() {
        about("promise 8");
        BlobRuns x = new BlobRuns();
        int[][] places = {{0, 0}, {15, 15}, {0, 15}, {15, 0}, {7, 9}};
        for (int[] at : places) {
            due("turn", x.turn(at[0], at[1]), 1);
            due("dot", x.dot(at[0], at[1], 0), 1);
        }
        due("told(2)", x.told(2), 5);
        due("turn(7, 9)", x.turn(7, 9), 0);
        due("told(2)", x.told(2), 4);
        due("told(10)", x.told(10), 6);
        refused("turn(?, 0)", x, UNKNOWN, (o, v) -> o.turn(v, 0), -1, 16, MIN, MAX);
        refused("turn(0, ?)", x, UNKNOWN, (o, v) -> o.turn(0, v), -1, 16, MIN, MAX);
    }

    private static void promise9() {
        about("promise 9");
        BlobRuns x = drawn("##..#", ".#...", ".##.#", "....#");
        refused("wipe(?)", x, UNKNOWN, (o, v) -> o.wipe(v), -1, 3, 256, MIN, MAX);
        due("wipe(0)", x.wipe(0), 5);
        shows("wipe(0)", x, "....#", ".....", "....#", "....#");
        due("wipe(1)", x.wipe(1), 2);
        shows("wipe(1)", x, "....#");
        due("told(10)", x.told(10), 6);
        due("wipe(0)", x.wipe(0), 1);
        refused("wipe(0) of nothing", x, o -> o.wipe(0), UNKNOWN);
        due("undo(3)", x.undo(3), 8);
        shows("undo(3)", x, "##..#", ".#...", ".##.#", "....#");
        BlobRuns nest = drawn(NEST);
        due("wipe(0) leaves what lies in it", nest.wipe(0), 40);
        due("part(1, 8)", nest.part(1, 8), 0);
        due("part(2, 8)", nest.part(2, 8), 1);
        BlobRuns y = dark();
        due("wipe(0) of all", y.wipe(0), 256);
        due("told(1)", y.told(1), 0);
    }

    private static void promise10() {
        about("promise 10");
        BlobRuns x = drawn(".#####", ".#.#.#", ".###.#", "...###");
        refused("fill(?)", x, UNKNOWN, (o, v) -> o.fill(v), -1, 2, 256, MIN, MAX);
        due("fill(1)", x.fill(1), 2);
        shows("fill(1)", x, ".#####", ".#.###", ".#####", "...###");
        due("told(10)", x.told(10), 5);
        due("fill(0)", x.fill(0), 1);
        refused("fill(0) of none", x, o -> o.fill(0), UNKNOWN);
        // What lies in a hole becomes one with the part around it.
        BlobRuns nest = drawn(NEST);
        due("fill(0)", nest.fill(0), 32);
        due("told(2)", nest.told(2), 7);
        due("told(3)", nest.told(3), 2);
        due("part(0, 6)", nest.part(0, 6), 2);
        refused("fill(0) of the open", drawn("#.#"), o -> o.fill(0), UNKNOWN);
    }

    private static void promise11() {
        about("promise 11");
        BlobRuns x = drawn("#...............", "................", "....#...........", "...............#");
        due("grow()", x.grow(), 2 + 4 + 3);
        shows("grow()", x, "##..............", "#...#...........", "...###.........#", "....#.........##", "...............#");
        due("told(10)", x.told(10), 5);
        BlobRuns y = drawn("#...............", "................", "....#...........", "...............#");
        y.mode(8);
        due("grow() by 8", y.grow(), 3 + 8 + 5);
        shows("grow() by 8", y, "##..............", "##.###..........", "...###........##", "...###........##", "..............##");
        BlobRuns none = new BlobRuns();
        due("grow() of nothing", none.grow(), 0);
        due("told(10)", none.told(10), 1);
        BlobRuns all = dark();
        due("grow() of all", all.grow(), 0);
        due("told(10)", all.told(10), 17);
        BlobRuns low = new BlobRuns();
        low.row(15, 32768);
        due("grow() at the last place", low.grow(), 2);
        due("rowAt(15, 0)", low.rowAt(15, 0), 49152);
        due("rowAt(0, 0)", low.rowAt(0, 0), 0);
    }

    private static void promise12() {
        about("promise 12");
        String[] cross = {"......", "..##..", ".####.", ".####.", "..##.."};
        BlobRuns x = drawn(cross);
        due("shrink()", x.shrink(), 8);
        shows("shrink()", x, "......", "......", "..##..", "..##..");
        due("told(10)", x.told(10), 6);
        BlobRuns y = drawn(cross);
        y.mode(8);
        due("shrink() by 8", y.shrink(), 12);
        BlobRuns square = drawn("....", ".###", ".###", ".###");
        square.mode(8);
        due("shrink() of a square by 8", square.shrink(), 8);
        shows("shrink() of a square by 8", square, "", "", "..#.");
        // Beyond the rim there is no dot, so all along it becomes light.
        BlobRuns all = dark();
        due("shrink() of all", all.shrink(), 60);
        due("rowAt(0, 0)", all.rowAt(0, 0), 0);
        due("rowAt(1, 0)", all.rowAt(1, 0), 32766);
        due("shrink() again", all.shrink(), 52);
        BlobRuns eight = dark();
        eight.mode(8);
        due("shrink() of all by 8", eight.shrink(), 60);
        BlobRuns none = new BlobRuns();
        due("shrink() of nothing", none.shrink(), 0);
        due("told(10)", none.told(10), 1);
        BlobRuns after = new BlobRuns();
        after.row(0, 448);
        after.row(15, 448);
        due("grow()", after.grow(), 10);
        due("shrink() after grow()", after.shrink(), 16);
        shows("shrink() after grow()", after);
    }

    private static void promise13() {
        about("promise 13");
        String[] rows = {"#..............#", "..##............"};
        BlobRuns x = drawn(rows);
        due("move(0, 0)", x.move(0, 0), 4);
        due("told(10)", x.told(10), 3);
        due("move(2, 3)", x.move(2, 3), 3);
        shows("move(2, 3)", x, "", "", "...#............", ".....##.........");
        due("move(-3, -6)", x.move(-3, -6), 1);
        shows("move(-3, -6)", x, "#...............");
        due("move(15, 15)", x.move(15, 15), 1);
        due("rowAt(15, 0)", x.rowAt(15, 0), 32768);
        due("move(-15, -15)", x.move(-15, -15), 1);
        due("rowAt(0, 0)", x.rowAt(0, 0), 1);
        due("move(-1, 0)", x.move(-1, 0), 0);
        due("undo(6)", x.undo(6), 4);
        shows("undo(6)", x, rows);
        due("move(0, 1)", x.move(0, 1), 3);
        shows("move(0, 1)", x, ".#..............", "...##...........");
        refused("move(?, 0)", x, OUTSIDE, (o, v) -> o.move(v, 0), -16, 16, MIN, MAX);
        refused("move(0, ?)", x, OUTSIDE, (o, v) -> o.move(0, v), -16, 16, MIN, MAX);
    }

    private static void promise14() {
        about("promise 14");
        BlobRuns x = drawn("#.#", ".#.");
        due("over()", x.over(), 253);
        due("rowAt(0, 0)", x.rowAt(0, 0), 65530);
        due("rowAt(1, 0)", x.rowAt(1, 0), 65533);
        due("rowAt(2, 0)", x.rowAt(2, 0), 65535);
        due("told(10)", x.told(10), 3);
        due("told(0)", x.told(0), 4);
        due("over() back", x.over(), 3);
        shows("over() back", x, "#.#", ".#.");
        due("over() of nothing", new BlobRuns().over(), 256);
        due("over() of all", dark().over(), 0);
    }

    private static void promise15() {
        about("promise 15");
        BlobRuns x = drawn("#.#", ".#.");
        refused("mode(4)", x, o -> o.mode(4), NOT);
        refused("mode(?)", x, OUTSIDE, (o, v) -> o.mode(v), -8, 0, 3, 5, 6, 7, 9, 12, MIN, MAX);
        due("mode(8)", x.mode(8), 1);
        due("told(0)", x.told(0), 8);
        due("told(10)", x.told(10), 3);
        refused("mode(8)", x, o -> o.mode(8), NOT);
        due("mode(4)", x.mode(4), 3);
        due("undo(1)", x.undo(1), 3);
        due("told(0)", x.told(0), 8);
    }

    private static void promise16() {
        about("promise 16");
        for (int seed : new int[] {0, 1, 127, 65535, 1000000007, MAX}) {
            BlobRuns x = new BlobRuns();
            x.seed(seed);
            BigInteger now = BigInteger.valueOf(seed);
            boolean[] dots = new boolean[256];
            for (int n : new int[] {1, 2, 60, 60, 7}) {
                for (int i = 0; i < n; i++) {
                    now = now.multiply(BigInteger.valueOf(1103515245)).add(BigInteger.valueOf(12345)).mod(BigInteger.TWO.pow(31));
                    int place = now.divide(BigInteger.valueOf(65536)).mod(BigInteger.valueOf(256)).intValue();
                    dots[place] = !dots[place];
                }
                int darkDots = 0;
                for (boolean d : dots) {
                    darkDots += d ? 1 : 0;
                }
                due("seed " + seed + ": drift(" + n + ")", x.drift(n), darkDots);
            }
            for (int place = 0; place < 256; place++) {
                due("seed " + seed + ": dot " + place, x.dot(place / 16, place % 16, 0), dots[place] ? 1 : 0);
            }
            due("told(10)", x.told(10), 30);
            due("seed then", x.seed(0), now.intValue());
        }
        BlobRuns y = new BlobRuns();
        refused("drift(?)", y, OUTSIDE, (o, v) -> o.drift(v), -1, 0, 61, MIN, MAX);
        y.drift(5);
        due("each of the times is a deed", y.told(10), 5);
    }

    private static void promise17() {
        about("promise 17");
        BlobRuns x = new BlobRuns();
        refused("undo(1) of nothing", x, o -> o.undo(1), NOT);
        for (int c = 0; c < 16; c++) {
            x.turn(0, c);
            x.turn(1, c);
        }
        due("told(10) after 32", x.told(10), 30);
        refused("undo(?)", x, OUTSIDE, (o, v) -> o.undo(v), -1, 0, 31, MIN, MAX);
        due("undo(1)", x.undo(1), 31);
        due("rowAt(1, 0)", x.rowAt(1, 0), 32767);
        due("undo(5)", x.undo(5), 26);
        due("told(10)", x.told(10), 24);
        refused("undo(25)", x, o -> o.undo(25), NOT);
        due("turn(2, 2)", x.turn(2, 2), 1);
        due("undo(25)", x.undo(25), 2);
        shows("undo(25)", x, "#", "#");
        refused("undo(1) of no more", x, o -> o.undo(1), NOT);
        BlobRuns y = new BlobRuns();
        y.seed(99);
        y.drift(40);
        int seed = y.seed(0);
        y.seed(seed);
        y.undo(30);
        due("the seed stays", y.seed(0), seed);
        BlobRuns z = new BlobRuns();
        z.drift(10);
        BlobRuns w = new BlobRuns();
        w.drift(12);
        w.drift(28);
        w.undo(30);
        for (int r = 0; r < 16; r++) {
            due("some of the times are undone: rowAt(" + r + ", 0)", w.rowAt(r, 0), z.rowAt(r, 0));
        }
    }

    /** Every deed is one, whether it changes a dot or not; what is no deed is none. */
    private static void promise17Deeds() {
        about("promise 17");
        BlobRuns x = drawn("###", "#.#", "###");
        x.keep(0);
        List<ToIntFunction<BlobRuns>> deeds = List.of(o -> o.row(5, 9), o -> o.turn(5, 1), o -> o.fill(0), o -> o.wipe(1),
            o -> o.grow(), o -> o.shrink(), o -> o.move(1, 1), o -> o.over(), o -> o.mode(8), o -> o.drift(1));
        List<List<Integer>> pictures = new ArrayList<>();
        for (int k = 0; k < deeds.size(); k++) {
            pictures.add(pictureAndMode(x));
            due("deed " + k + " is taken", deeds.get(k).applyAsInt(x) >= 0 ? 1 : 0, 1);
            due("told(10) after deed " + k, x.told(10), k + 1);
        }
        for (int k = deeds.size() - 1; k >= 0; k--) {
            int dots = pictures.get(k).subList(0, 16).stream().mapToInt(Integer::bitCount).sum();
            due("undo(1) of deed " + k, x.undo(1), dots);
            due("deed " + k + " is undone", pictureAndMode(x).equals(pictures.get(k)) ? 1 : 0, 1);
        }
        x.seed(5);
        x.alike(0, 1);
        x.small(3);
        due("no deeds", x.told(10), 0);
        BlobRuns y = drawn("#.#", "###");
        due("told(2), asked ahead of undo", y.told(2), 1);
        due("undo(1)", y.undo(1), 2);
        due("told(2) after undo", y.told(2), 2);
    }

    // ---- asked

    private static void promise18() {
        about("promise 18");
        BlobRuns x = drawn("##.##.##..#.##", "#..#...#.##.##", "..............", "#.#.##........");
        // 0, 1: the same; 2: turned over; 3: turned round; 4: larger; 5, 6: dots; 7: two side by side.
        due("told(2)", x.told(2), 8);
        due("alike(0, 1)", x.alike(0, 1), 1);
        due("alike(1, 0)", x.alike(1, 0), 1);
        due("alike(0, 2)", x.alike(0, 2), 0);
        due("alike(2, 3)", x.alike(2, 3), 0);
        due("alike(0, 4)", x.alike(0, 4), 0);
        due("alike(5, 6)", x.alike(5, 6), 1);
        due("alike(6, 7)", x.alike(6, 7), 0);
        due("alike(7, 6)", x.alike(7, 6), 0);
        refused("alike(?, 0)", x, UNKNOWN, (o, v) -> o.alike(v, 0), -1, 8, 256, MIN, MAX);
        refused("alike(0, ?)", x, UNKNOWN, (o, v) -> o.alike(0, v), -1, 8, 256, MIN, MAX);
        refused("alike(3, 3)", x, o -> o.alike(3, 3), UNKNOWN);
        refused("alike(0, 0)", x, o -> o.alike(0, 0), UNKNOWN);
        // Of one size and box, but not the same; the difference in their last row.
        BlobRuns y = drawn("###.###.###", "#...#...#..", "##..#.#.##.");
        due("told(2)", y.told(2), 4);
        due("alike(0, 2)", y.alike(0, 2), 1);
        due("alike(0, 1)", y.alike(0, 1), 0);
        BlobRuns z = drawn("..#...#", "###.###", "..#.#..");
        due("alike of one size", z.alike(0, 1), 0);
        // One at the left rim and its like at the right rim, one row lower.
        BlobRuns rims = drawn("#...............", "##............#.", "..............##");
        due("alike from rim to rim", rims.alike(0, 1), 1);
        BlobRuns wide = drawn("################", "########........", "................", "################", "........########");
        due("alike but for the row below", wide.alike(0, 1), 0);
        // What lies in a hole does not tell.
        BlobRuns holes = drawn(".#####.#####", ".#...#.#...#", ".#.#.#.#...#", ".#...#.#...#", ".#####.#####");
        due("alike but for what lies within", holes.alike(0, 1), 1);
    }

    private static void promise19() {
        about("promise 19");
        BlobRuns x = drawn("#.#.##.###.####.");
        int[] want = {0, 2, 3, 4, 5, 5};
        for (int n = 0; n < want.length; n++) {
            due("small(" + n + ")", x.small(n), want[n]);
        }
        due("small(256)", x.small(256), 5);
        refused("small(?)", x, OUTSIDE, (o, v) -> o.small(v), -1, 257, MIN, MAX);
        due("small(255) of all", dark().small(255), 0);
        due("small(256) of all", dark().small(256), 1);
        due("small(256) of nothing", new BlobRuns().small(256), 0);
    }

    // ---- images

    private static void promise20() {
        about("promise 20");
        BlobRuns x = new BlobRuns();
        due("seed(MAX)", x.seed(MAX), 0);
        refused("seed(-1)", x, o -> o.seed(-1), OUTSIDE);
        refused("seed(MIN)", x, o -> o.seed(MIN), OUTSIDE);
        due("seed(5)", x.seed(5), MAX);
        due("seed(0)", x.seed(0), 5);
        due("it is no deed", x.told(10), 0);
        x.drift(1);
        due("seed(0) after a draw", x.seed(0), 12345);
    }

    private static void promise21() {
        about("promise 21");
        BlobRuns x = drawn("#.#");
        refused("keep(?)", x, UNKNOWN, (o, v) -> o.keep(v), -1, 2, MIN, MAX);
        due("goBack(0), nothing kept yet", x.goBack(0), NOT);
        due("keep(1)", x.keep(1), 1);
        due("told(10)", x.told(10), 0);
        refused("undo(1)", x, o -> o.undo(1), NOT);
        shows("keep(1)", x, "#.#");
        due("goBack(0), 1 kept", x.goBack(0), NOT);
        x.turn(0, 1);
        due("told(10)", x.told(10), 1);
        due("keep(0)", x.keep(0), 1);
        x.over();
        x.mode(8);
        due("keep(1) again", x.keep(1), 1);
        due("goBack(0)", x.goBack(0), 1);
        shows("goBack(0)", x, "###");
        due("goBack(1)", x.goBack(1), 1);
        due("told(1)", x.told(1), 253);
        due("told(0)", x.told(0), 8);
    }

    private static void promise22() {
        about("promise 22");
        BlobRuns x = drawn("#.#", ".#.");
        refused("goBack(?)", x, UNKNOWN, (o, v) -> o.goBack(v), -1, 2, MIN, MAX);
        refused("goBack(0)", x, o -> o.goBack(0), NOT);
        refused("goBack(1)", x, o -> o.goBack(1), NOT);
        x.mode(8);
        x.seed(77);
        x.keep(0);
        x.drift(9);
        x.mode(4);
        x.turn(9, 9);
        due("goBack(0)", x.goBack(0), 1);
        due("told(0)", x.told(0), 8);
        due("told(2)", x.told(2), 1);
        due("told(10)", x.told(10), 0);
        shows("goBack(0)", x, "#.#", ".#.");
        due("seed as it was kept", x.seed(3), 77);
        refused("undo(1)", x, o -> o.undo(1), NOT);
        // The image stays as it was kept, whatever is done after it has been gone back to.
        x.over();
        due("goBack(0) again", x.goBack(0), 1);
        shows("goBack(0) again", x, "#.#", ".#.");
        due("seed again", x.seed(3), 77);
        due("told(2), asked ahead of goBack", x.told(2), 1);
        x.row(9, 21845);
        due("told(2) of other rows", x.told(2), 9);
        due("goBack(0) once more", x.goBack(0), 1);
        due("told(2) once more", x.told(2), 1);
        refused("goBack(1), never kept", x, o -> o.goBack(1), NOT);
    }
}
