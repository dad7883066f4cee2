import java.io.IOException;
import java.math.BigInteger;
import java.util.ArrayList;
import java.util.Arrays;
import java.util.List;
import java.util.function.ToIntFunction;

/** What the document says ahead of its promises, sentence by sentence; each sentence is quoted ahead of its test. */
public final class TermsTest extends Refusals {
    public static void main(String[] args) throws IOException {
        numbers();
        refusals();
        places();
        joined();
        whatPartsAre();
        whatHolesAre();
        lying();
        measures();
        rowsTurnsAndParts();
        grownAndShrunk();
        movedAndOver();
        asked();
        joinsAndSplits();
        alikeLargestSmall();
        draws();
        undone();
        images();
        saidAllBetween("## Terms", "## Promise 1:");
        end();
    }

    // ---- terms

    private static void numbers() {
        remark("Words in capitals are told where they come first.");
        says("All numbers are whole; / cuts towards 0.");
        // From seed 0 the first draw is 12345 / 65536, which is 0, left over by 256.
        BlobRuns x = new BlobRuns();
        x.drift(1);
        due("dot(0, 0, 0)", x.dot(0, 0, 0), 1);
        says("What has a number has it from 0 on.");
        BlobRuns ring = drawn("###", "#.#", "###");
        due("part(0, 0)", ring.part(0, 0), 8);
        due("hole(0, 0)", ring.hole(0, 0), 1);
        due("rowAt(0, 0)", ring.rowAt(0, 0), 7);
        due("dot(0, 0, 0)", ring.dot(0, 0, 0), 1);
        due("keep(0)", ring.keep(0), 1);
        due("part(1, 0)", ring.part(1, 0), UNKNOWN);
        due("hole(1, 0)", ring.hole(1, 0), UNKNOWN);
        says("A SET is a whole number, bit k for k.");
        for (int k = 0; k < 16; k++) {
            BlobRuns y = new BlobRuns();
            y.row(3, 1 << k);
            for (int c = 0; c < 16; c++) {
                due("row(3, bit " + k + "), then dot(3, " + c + ", 0)", y.dot(3, c, 0), c == k ? 1 : 0);
            }
            BlobRuns z = oneDot(9, k);
            due("turn(9, " + k + "), then rowAt(9, 0)", z.rowAt(9, 0), 1 << k);
        }
        says("NONE is -1.");
        due("NONE", BlobRuns.NONE, -1);
        due("part(0, 7)", ring.part(0, 7), -1);
    }

    private static void refusals() {
        says("REFUSALS, of several the first in this order: UNKNOWN (a ROW, COLUMN, PART, HOLE, IMAGE that there is not; "
            + "one twice, where two are asked), OUTSIDE (another number out of its bounds), NOT (not now, as told), FULL.");
        BlobRuns x = drawn("###", "#.#", "###");
        due("no row, and outside", x.rowAt(16, 2), UNKNOWN);
        due("no row, and a set outside", x.row(-1, 65536), UNKNOWN);
        due("no row, and outside", x.dot(16, 0, 5), UNKNOWN);
        due("no column, and outside", x.dot(0, 16, 5), UNKNOWN);
        due("no part, and outside", x.part(1, 10), UNKNOWN);
        due("no hole, and outside", x.hole(1, 4), UNKNOWN);
        due("no image, and none is kept", x.goBack(2), UNKNOWN);
        due("one part twice", x.alike(0, 0), UNKNOWN);
        due("one that there is not, twice", x.alike(1, 1), UNKNOWN);
        due("outside, and not so many", x.undo(31), OUTSIDE);
        due("outside, and not so many", new BlobRuns().undo(0), OUTSIDE);
        due("not so many", x.undo(30), NOT);
        due("it was not kept", x.goBack(1), NOT);
        due("it is so", x.mode(4), NOT);
        says("They are far below all that is counted: -1000000001 and on.");
        due("UNKNOWN", BlobRuns.UNKNOWN, -1000000001);
        due("OUTSIDE", BlobRuns.OUTSIDE, -1000000002);
        due("NOT", BlobRuns.NOT, -1000000003);
        due("FULL", BlobRuns.FULL, -1000000004);
        says("What is refused changes nothing.");
        scenesAreSo();
        for (int promise = 1; promise <= 22; promise++) {
            ofPromise(promise);
        }
    }

    // ---- 1: the picture

    private static void places() {
        says("1 THE PICTURE has 16 ROWS and 16 COLUMNS of DOTS, dark or light (all light at first);");
        BlobRuns x = new BlobRuns();
        for (int place = 0; place < 256; place++) {
            due("dot of " + place + " at first", x.dot(place / 16, place % 16, 0), 0);
        }
        due("the last row is there", x.rowAt(15, 0), 0);
        due("there is none behind it", x.rowAt(16, 0), UNKNOWN);
        due("the last column is there", x.dot(0, 15, 0), 0);
        due("there is none behind it", x.dot(0, 16, 0), UNKNOWN);
        says("a DOT's PLACE is 16 times its ROW, and its COLUMN.");
        for (int place = 0; place < 256; place++) {
            due("part(0, 9)", oneDot(place / 16, place % 16).part(0, 9), place);
        }
        for (int place = 0; place < 256; place++) {
            BlobRuns y = new BlobRuns();
            y.over();
            y.turn(place / 16, place % 16);
            due("hole(0, 3)", y.hole(0, 3), isInside(place) ? place : UNKNOWN);
        }
    }

    private static boolean isInside(int place) {
        return place / 16 > 0 && place / 16 < 15 && place % 16 > 0 && place % 16 < 15;
    }

    private static void joined() {
        says("JOINED by MODE 4 (at first) are dark DOTS side by side (left, right, above, below), "
            + "and light DOTS that touch one another by a side or a corner;");
        everyPair(4);
        due("at first", new BlobRuns().told(0), 4);
        says("by MODE 8 it is the other way round: dark ones by sides and corners, light ones by sides alone.");
        everyPair(8);
    }

    /** Two dots of one colour in a picture of the other, wherever they are: none is joined over the rim. */
    private static void everyPair(int mode) {
        for (int a = 0; a < 256; a++) {
            for (int b = a + 1; b < 256; b++) {
                int down = b / 16 - a / 16, right = Math.abs(b % 16 - a % 16);
                boolean side = down + right == 1, corner = down == 1 && right == 1;
                BlobRuns x = new BlobRuns();
                x.turn(a / 16, a % 16);
                x.turn(b / 16, b % 16);
                if (mode == 8) {
                    x.mode(8);
                }
                String two = "dots at " + a + ", " + b + ": ";
                due(two + "dark parts", x.told(2), side || corner && mode == 8 ? 1 : 2);
                x.over();
                boolean one = side || corner && mode == 4;
                int single = (isInside(a) ? 1 : 0) + (isInside(b) ? 1 : 0);
                due(two + "light parts", x.told(4), one ? 1 : 2);
                due(two + "holes", x.told(3), one ? single / 2 : single);
            }
        }
    }

    private static void whatPartsAre() {
        says("PARTS are all dark DOTS that are JOINED, directly or by others;");
        BlobRuns spiral = drawn("################", "...............#", "##############.#", "#............#.#", "#.##########.#.#",
            "#.#........#.#.#", "#.#.######.#.#.#", "#.#.#....#.#.#.#", "#.#.#.##.#.#.#.#", "#.#.#..#.#.#.#.#", "#.#.####.#.#.#.#",
            "#.#......#.#.#.#", "#.########.#.#.#", "#..........#.#.#", "############.#.#", ".............#.#");
        due("a spiral is one part", spiral.told(2), 2);
        due("its beginning", spiral.dot(0, 0, 1), 0);
        due("its end, two rows down", spiral.dot(15, 15, 1), 0);
        due("the inner spiral", spiral.dot(8, 6, 1), 1);
        due("the inner spiral's other end", spiral.dot(15, 13, 1), 1);
        BlobRuns comb = drawn("#.#.#.#.#.#.#.#.", "#.#.#.#.#.#.#.#.");
        due("teeth", comb.told(2), 8);
        due("teeth on a comb", comb.row(2, 65535), 1);
        BlobRuns slope = byEight(drawn("#", ".#", "..#", ".#", "#"));
        due("by corners, one after another", slope.told(2), 1);
        says("numbered by their least PLACE, rising.");
        BlobRuns cup = drawn(".#.#.#", ".#...#", ".#####", "......", "#.#");
        due("a cup", cup.dot(0, 5, 1), 0);
        due("what hangs in it", cup.dot(0, 3, 1), 1);
        due("below it, left", cup.dot(4, 0, 1), 2);
        due("below it, right", cup.dot(4, 2, 1), 3);
        // What begins further left, but lower, comes later; what is joined only below has the least of all its places.
        BlobRuns late = drawn("....#..#", ".#..#..#", ".#..####", ".#......");
        due("the least", late.dot(2, 7, 1), 0);
        due("further left", late.dot(1, 1, 1), 1);
        BlobRuns hook = drawn("......#.", "..#.#.#.", "..#.#.#.", "..#####.", "#.......");
        due("joined from the left to the right", hook.dot(1, 2, 1), 0);
        due("the left rim, lower", hook.dot(4, 0, 1), 1);
        due("none more", hook.told(2), 2);
        for (int p = 0; p < 128; p++) {
            due("checkers: least place of part " + p, checkers().part(p, 9), p / 8 * 16 + p % 8 * 2 + p / 8 % 2);
        }
        says("LIGHT PARTS likewise of light DOTS.");
        due("all light", new BlobRuns().told(4), 1);
        due("all dark", dark().told(4), 0);
        due("checkers by 4", checkers().told(4), 1);
        due("checkers by 8", byEight(checkers()).told(4), 128);
        due("a spiral's light", spiral.told(4), 2);
        due("halves", drawn("", "", "################").told(4), 2);
    }

    private static void whatHolesAre() {
        says("A LIGHT PART with no DOT in ROW 0 or 15, in COLUMN 0 or 15 is a HOLE;");
        for (int mode = 4; mode <= 8; mode += 4) {
            for (int place = 0; place < 256; place++) {
                BlobRuns x = new BlobRuns();
                x.mode(mode);
                x.over();
                x.turn(place / 16, place % 16);
                due("one light dot at " + place + " by " + mode, x.told(3), isInside(place) ? 1 : 0);
                due("it is a light part", x.told(4), 1);
            }
        }
        int[][] ways = {{-1, 0}, {1, 0}, {0, -1}, {0, 1}};
        for (int[] way : ways) {
            BlobRuns x = new BlobRuns();
            x.over();
            int r = 7, c = 8;
            while (r >= 0 && r < 16 && c >= 0 && c < 16) {
                x.turn(r, c);
                due("a light way to " + r + ", " + c, x.told(3), isInside(r * 16 + c) ? 1 : 0);
                r += way[0];
                c += way[1];
            }
        }
        // A way out by a corner: open by 4, where light dots join by corners.
        BlobRuns slant = drawn(".####", "#.###", "##.##", "#####");
        due("a slanting way by 4", slant.told(3), 0);
        due("a slanting way by 8", byEight(slant).told(3), 2);
        says("HOLES are numbered by their least PLACE, rising.");
        BlobRuns x = drawn("################", "##.###.##.##.##.", "#######.########", "#.#####.###.####", "#.#############.", "################");
        int[] least = {18, 22, 25, 28, 49, 59};
        for (int h = 0; h < least.length; h++) {
            due("hole(" + h + ", 3)", x.hole(h, 3), least[h]);
        }
        due("so many", x.told(3), 6);
        due("the third dot of one", x.dot(3, 7, 2), 1);
        says("(All others are OPEN.)");
        due("open, on the rim", x.dot(1, 15, 2), NONE);
        due("open, below", x.dot(6, 3, 2), NONE);
        BlobRuns both = drawn("################", "##.############.", "################");
        due("light parts", both.told(4), 3);
        due("holes of them", both.told(3), 1);
    }

    private static void lying() {
        says("A HOLE is OF the PART that the DOT straight above its least PLACE is of.");
        BlobRuns x = drawn("..####..........", "..####.#####....", "..####.#...#....", "..#..#.#####....", "..####..........");
        due("the later part's hole comes first", x.hole(0, 1), 1);
        due("the first part's hole", x.hole(1, 1), 0);
        BlobRuns ring = drawn(".#######", ".#.....#", ".#.###.#", ".#.#.#.#", ".#.###.#", ".#.....#", ".#######");
        due("the outer hole", ring.hole(0, 1), 0);
        due("the inner hole", ring.hole(1, 1), 1);
        BlobRuns step = drawn(".....####", ".....#..#", "..####..#", "..#.....#", "..#######");
        due("a hole with a step", step.hole(0, 1), 0);
        BlobRuns diamonds = byEight(drawn("...#...", "..#.#..", ".#...#.", "#..#..#", ".#...#.", "..#.#..", "...#..."));
        due("a diamond's hole", diamonds.hole(0, 1), 0);
        due("the most holes of one part", byEight(checkers()).part(0, 6), 98);
        says("A PART LIES IN a HOLE, if the DOT straight above its least PLACE is of that HOLE;");
        due("in the outer ring's hole", ring.part(1, 7), 0);
        due("in the diamond", diamonds.part(1, 7), 0);
        BlobRuns two = drawn("##########", "#...##...#", "#.#.##.#.#", "#...##...#", "#.#.######", "#...#.....", "#####.....");
        due("in the left hole", two.part(1, 7), 0);
        due("in the right hole", two.part(2, 7), 1);
        due("in the left hole again", two.part(3, 7), 0);
        due("left", two.hole(0, 2), 2);
        due("right", two.hole(1, 2), 1);
        says("in the OPEN, if there is none above, or it is OPEN.");
        due("none above", ring.part(0, 7), NONE);
        due("none above, further right", drawn("#.#").part(1, 7), NONE);
        due("open above", drawn("", "#").part(0, 7), NONE);
        BlobRuns gap = drawn("#####", "#...#", "#.#.#", "#...#", "##.##");
        due("a ring with a gap", gap.part(1, 7), NONE);
        BlobRuns corner = drawn("#####", "#...#", "#.#.#", "#...#", "####.");
        due("by a corner it is open by 4", corner.part(1, 7), NONE);
        due("by a corner it is closed by 8", byEight(corner).part(1, 7), 0);
        says("DEEP: 0 for a PART that lies in the OPEN, else 1 more than the PART whose HOLE it lies in.");
        for (int p = 0; p < 4; p++) {
            due("rings: part(" + p + ", 8)", rings().part(p, 8), p);
            due("rings by 8: part(" + p + ", 8)", byEight(rings()).part(p, 8), p);
        }
        due("in a ring with a gap", gap.part(1, 8), 0);
        due("two in one hole", two.part(3, 8), 1);
        // The ring within a ring is gone, and what lay in it is less deep.
        BlobRuns less = rings();
        less.wipe(1);
        due("without the second ring", less.part(1, 8), 1);
    }

    private static void measures() {
        says("SIZE of a PART, a HOLE: how many DOTS.");
        due("one dot", oneDot(15, 15).part(0, 0), 1);
        due("all dots", dark().part(0, 0), 256);
        BlobRuns frame = rings();
        for (int p = 0; p < 4; p++) {
            due("rings: part(" + p + ", 0)", frame.part(p, 0), 60 - 16 * p);
            due("rings: hole(" + p + ", 0)", frame.hole(p, 0), 52 - 16 * p);
        }
        BlobRuns wide = new BlobRuns();
        wide.over();
        for (int r = 1; r < 15; r++) {
            wide.row(r, 32769);
        }
        due("the largest hole", wide.hole(0, 0), 196);
        says("RIM of a PART: how many sides of its DOTS are next to a light DOT, or to no DOT.");
        for (int place = 0; place < 256; place++) {
            due("one dot at " + place, oneDot(place / 16, place % 16).part(0, 1), 4);
        }
        due("all dots", dark().part(0, 1), 64);
        due("outside and inside", frame.part(0, 1), 64 + 56);
        due("by corners alone", byEight(drawn("#.#", ".#.", "#.#")).part(0, 1), 20);
        due("a column", drawn("#", "#", "#").part(0, 1), 8);
        BlobRuns full = new BlobRuns();
        due("a row from rim to rim", full.row(7, 65535), 1);
        due("a row from rim to rim", full.part(0, 1), 34);
        due("next to others by a corner", drawn("#.", ".#").part(0, 1), 4);
        says("BOX: the least and the greatest ROW, COLUMN of it.");
        for (int place = 0; place < 256; place++) {
            int r = place / 16, c = place % 16;
            BlobRuns x = oneDot(r, c);
            int[] box = {r, r, c, c};
            for (int k = 0; k < 4; k++) {
                due("one dot at " + place + ": part(0, " + (2 + k) + ")", x.part(0, 2 + k), box[k]);
            }
        }
        BlobRuns z = drawn("......##", ".....##.", "..####..", "..#.....", ".##.....", "........", "#.......");
        int[] box = {0, 4, 1, 7};
        for (int k = 0; k < 4; k++) {
            due("part(0, " + (2 + k) + ")", z.part(0, 2 + k), box[k]);
        }
        BlobRuns cross = new BlobRuns();
        for (int r = 0; r < 16; r++) {
            cross.row(r, r == 9 ? 65535 : 64);
        }
        for (int k = 0; k < 4; k++) {
            due("a cross: part(0, " + (2 + k) + ")", cross.part(0, 2 + k), k % 2 * 15);
        }
        // A part that becomes smaller has its box anew.
        cross.row(9, 64);
        due("a cross without its arms: the least column", cross.part(0, 4), 6);
        due("a cross without its arms: the greatest column", cross.part(0, 5), 6);
        cross.row(15, 0);
        due("a cross without its foot: the greatest row", cross.part(0, 3), 14);
        cross.row(0, 0);
        due("a cross without its head: the least row", cross.part(0, 2), 1);
        says("RUN: dark DOTS side by side in a ROW, as many as there are.");
        BlobRuns x = new BlobRuns();
        for (int set = 0; set < 65536; set++) {
            int runs = 0;
            for (int c = 0; c < 16; c++) {
                runs += (set >> c & 3) == 1 ? 1 : 0;
            }
            x = set % 128 == 0 ? new BlobRuns() : x;
            x.row(set % 16, set);
            due("rowAt(" + set % 16 + ", 1) of " + set, x.rowAt(set % 16, 1), runs);
        }
    }

    // ---- 2: deeds

    private static void rowsTurnsAndParts() {
        says("2 ROW: a ROW becomes a SET of dark COLUMNS.");
        BlobRuns x = drawn("####", "####", "####");
        x.row(1, 65520);
        shows("row(1, 65520)", x, "####", "....############", "####");
        x.row(1, 0);
        shows("row(1, 0)", x, "####", "", "####");
        x.row(15, 65535);
        due("row(15, 65535)", x.rowAt(15, 0), 65535);
        says("TURNED: a DOT.");
        for (int place = 0; place < 256; place++) {
            BlobRuns y = drawn("#.#", ".#.");
            List<Integer> before = pictureAndMode(y);
            y.turn(place / 16, place % 16);
            before.set(place / 16, before.get(place / 16) ^ 1 << place % 16);
            holds("turn at " + place, pictureAndMode(y).equals(before));
            y.turn(place / 16, place % 16);
            shows("turned back", y, "#.#", ".#.");
        }
        says("WIPED OUT: a PART becomes light.");
        String[] touching = {"##..", "#.#.", "..##", "#..."};
        BlobRuns bySides = drawn(touching);
        bySides.wipe(0);
        shows("wipe(0) by 4", bySides, "....", "..#.", "..##", "#...");
        BlobRuns byCorners = byEight(drawn(touching));
        byCorners.wipe(0);
        shows("wipe(0) by 8", byCorners, "....", "....", "....", "#...");
        BlobRuns nest = drawn(NEST);
        nest.wipe(0);
        due("what lies in it stays", nest.part(1, 0), 16);
        says("FILLED: a HOLE becomes dark.");
        BlobRuns holed = byEight(drawn(".####", ".#.##", ".##.#", ".####"));
        due("two by 8", holed.told(3), 2);
        holed.fill(0);
        shows("the other stays", holed, ".####", ".####", ".##.#", ".####");
        BlobRuns one = drawn(".####", ".#.##", ".##.#", ".####");
        due("one by 4", one.told(3), 1);
        one.fill(0);
        shows("both of its dots", one, ".####", ".####", ".####", ".####");
        BlobRuns full = drawn("#####", "#...#", "#.#.#", "#...#", "#####");
        full.fill(0);
        shows("what lies in it stays dark", full, "#####", "#####", "#####", "#####", "#####");
    }

    private interface Near {
        boolean is(int r, int c);
    }

    /** How many of the dots around one, by the mode, are so. */
    private static int around(int r, int c, int mode, Near near) {
        int count = 0;
        for (int y = r - 1; y <= r + 1; y++) {
            for (int x = c - 1; x <= c + 1; x++) {
                boolean other = y != r || x != c;
                boolean bySide = y == r || x == c;
                count += other && (bySide || mode == 8) && near.is(y, x) ? 1 : 0;
            }
        }
        return count;
    }

    private static boolean isDot(int r, int c) {
        return r >= 0 && r < 16 && c >= 0 && c < 16;
    }

    private static void grownAndShrunk() {
        says("GROWN: each light DOT with a dark one at its side (by MODE 8 at its corner, too) becomes dark, all at once.");
        everyPlaceGrown(4);
        everyPlaceGrown(8);
        BlobRuns two = drawn("#.#");
        two.grow();
        shows("grow() of two", two, "####", "#.#");
        says("SHRUNK: each dark DOT with a light one, or none, there likewise becomes light, all at once.");
        everyPlaceShrunk(4);
        everyPlaceShrunk(8);
        BlobRuns after = new BlobRuns();
        after.row(0, 448);
        after.row(15, 448);
        after.grow();
        after.shrink();
        shows("shrink() after grow(), along the rim", after);
        BlobRuns all = dark();
        for (int left = 14; left >= 0; left -= 2) {
            all.shrink();
            due("ring after ring", all.told(1), left * left);
        }
    }

    /** One dark dot, wherever it is. */
    private static void everyPlaceGrown(int mode) {
        for (int place = 0; place < 256; place++) {
            int r = place / 16, c = place % 16;
            BlobRuns x = oneDot(r, c);
            x.mode(mode);
            due("grow() by " + mode + " at " + place, x.grow(), around(r, c, mode, TermsTest::isDot));
            for (int at = 0; at < 256; at++) {
                boolean near = at == place || around(at / 16, at % 16, mode, (y, z) -> y == r && z == c) == 1;
                due("grow() by " + mode + " at " + place + ": dot " + at, x.dot(at / 16, at % 16, 0), near ? 1 : 0);
            }
        }
    }

    /** One light dot, wherever it is, in a picture that else is dark. */
    private static void everyPlaceShrunk(int mode) {
        for (int place = 0; place < 256; place++) {
            int r = place / 16, c = place % 16;
            BlobRuns x = oneDot(r, c);
            x.over();
            x.mode(mode);
            int stay = 0;
            boolean[] stays = new boolean[256];
            for (int at = 0; at < 256; at++) {
                int dark = around(at / 16, at % 16, mode, (y, z) -> isDot(y, z) && (y != r || z != c));
                stays[at] = at != place && dark == mode;
                stay += stays[at] ? 1 : 0;
            }
            due("shrink() by " + mode + " at " + place, x.shrink(), 255 - stay);
            for (int at = 0; at < 256; at++) {
                due("shrink() by " + mode + " at " + place + ": dot " + at, x.dot(at / 16, at % 16, 0), stays[at] ? 1 : 0);
            }
        }
    }

    private static void movedAndOver() {
        says("MOVED by rows and columns: DOTS go over the rim and are lost, light ones come in.");
        for (int down = -15; down <= 15; down++) {
            for (int right = -15; right <= 15; right++) {
                BlobRuns x = dark();
                String call = "move(" + down + ", " + right + ")";
                due(call, x.move(down, right), (16 - Math.abs(down)) * (16 - Math.abs(right)));
                for (int r = 0; r < 16; r++) {
                    int set = 0;
                    for (int c = 0; c < 16; c++) {
                        set |= isDot(r - down, c - right) ? 1 << c : 0;
                    }
                    due(call + ", then rowAt(" + r + ", 0)", x.rowAt(r, 0), set);
                }
                due(call + " and back", x.move(-down, -right), (16 - Math.abs(down)) * (16 - Math.abs(right)));
            }
        }
        BlobRuns y = drawn("#.#", ".#.");
        y.move(3, 2);
        shows("move(3, 2)", y, "", "", "", "..#.#", "...#.");
        says("OVER: dark ones become light, light ones dark.");
        BlobRuns x = drawn(NEST);
        x.over();
        for (int r = 0; r < 16; r++) {
            due("over(), then rowAt(" + r + ", 0)", x.rowAt(r, 0), 65535 - set(NEST[r]));
        }
        x.over();
        shows("over() twice", x, NEST);
        says("MODE: 4 or 8.");
        BlobRuns m = new BlobRuns();
        m.mode(8);
        due("mode(8)", m.told(0), 8);
        m.mode(4);
        due("mode(4)", m.told(0), 4);
    }

    // ---- 3: asked

    /** Every question, with numbers that there are and numbers that there are not. */
    private static List<Deed> questions() {
        List<Deed> all = new ArrayList<>();
        for (int what = -1; what <= 11; what++) {
            int w = what;
            all.add(x -> x.told(w));
            for (int n = -1; n <= 16; n++) {
                int k = n;
                all.add(x -> x.rowAt(k, w));
                all.add(x -> x.dot(k, 5, w));
                all.add(x -> x.dot(2, k, w));
                all.add(x -> x.part(k, w));
                all.add(x -> x.hole(k, w));
                all.add(x -> x.alike(k, w));
                all.add(x -> x.small(k * 16 + w));
            }
        }
        return all;
    }

    private static void asked() {
        says("3 ASKED, nothing changes by it.");
        for (Scene s : SCENES) {
            List<Deed> all = questions();
            // An object is used for 512 calls: so many questions at once that all can be seen after them.
            for (int from = 0; from < all.size(); from += 100) {
                List<Deed> some = all.subList(from, Math.min(from + 100, all.size()));
                unchanged(s, "asking from " + from + " on", x -> some.forEach(question -> question.on(x)));
            }
        }
        says("EULER: PARTS less HOLES.");
        due("nothing", new BlobRuns().told(5), 1000);
        due("a ring", drawn("###", "#.#", "###").told(5), 1000);
        due("two holes", drawn("#####", "#.#.#", "#####").told(5), 999);
        due("four corners by 4", drawn(".#.", "#.#", ".#.").told(5), 1004);
        due("four corners by 8", byEight(drawn(".#.", "#.#", ".#.")).told(5), 1000);
        due("the most", checkers().told(5), 1128);
        due("many holes", byEight(checkers()).told(5), 903);
    }

    private static void joinsAndSplits() {
        says("JOINS at a light DOT: how many PARTS would be one, were it dark (0: it would be one by itself).");
        everyNeighbourhood(3);
        everyOtherPlace();
        BlobRuns x = drawn("###", "#.#", "#.#", "..#", "###");
        due("one part twice", x.dot(1, 1, 3), 1);
        due("by itself", x.dot(9, 9, 3), 0);
        says("SPLITS at a dark DOT: how many PARTS there would be in place of its own, were it light (0: it was all).");
        everyNeighbourhood(4);
        BlobRuns ring = drawn("###", "#.#", "###");
        due("a ring", ring.dot(0, 1, 4), 1);
        ring.turn(2, 1);
        due("a ring with a gap", ring.dot(0, 1, 4), 2);
        due("its end", ring.dot(2, 0, 4), 1);
        due("all of it", oneDot(0, 0).dot(0, 0, 4), 0);
        due("all of it, beside others", drawn("#.#").dot(0, 2, 4), 0);
        // Far apart, but joined further on.
        BlobRuns far = drawn("################", "#..............#", "#..............#", "################");
        due("a wide ring", far.dot(0, 8, 4), 1);
    }

    /** One dark dot and a light one, wherever they are: none joins from further off, or over the rim. */
    private static void everyOtherPlace() {
        for (int place = 0; place < 256; place++) {
            int r = place / 16, c = place % 16;
            for (int mode = 4; mode <= 8; mode += 4) {
                BlobRuns x = oneDot(r, c);
                x.mode(mode);
                for (int at = 0; at < 256; at++) {
                    int joins = around(at / 16, at % 16, mode, (y, z) -> y == r && z == c);
                    String call = "dot of " + at + ", 3, where " + place + " is dark by " + mode;
                    due(call, x.dot(at / 16, at % 16, 3), at == place ? NONE : joins);
                }
            }
        }
    }

    /** All that can lie around a dot: amid the picture, at each rim and in each corner, by both modes. */
    private static void everyNeighbourhood(int what) {
        for (int place : new int[] {0, 7, 15, 112, 119, 127, 240, 247, 255}) {
            int r = place / 16, c = place % 16;
            for (int bits = 0; bits < 256; bits++) {
                BlobRuns x = new BlobRuns();
                Model model = new Model();
                for (int k = 0; k < 8; k++) {
                    int near = k < 4 ? k : k + 1;
                    int y = r + near / 3 - 1, z = c + near % 3 - 1;
                    if ((bits >> k & 1) == 1 && isDot(y, z)) {
                        x.turn(y, z);
                        model.turn(y, z);
                    }
                }
                if (what == 4) {
                    x.turn(r, c);
                    model.turn(r, c);
                }
                String call = "dot(" + r + ", " + c + ", " + what + ") amid " + bits;
                due(call + " by 4", x.dot(r, c, what), model.dot(r, c, what));
                x.mode(8);
                model.mode(8);
                due(call + " by 8", x.dot(r, c, what), model.dot(r, c, what));
            }
        }
    }

    private static void alikeLargestSmall() {
        says("ALIKE of two PARTS: 1, if they are the same moved, else 0.");
        BlobRuns x = drawn("##.##.##..#.##..", "#..#...#.##.##..", "..............#.", ".#............##", "##....##......#.",
            "......#.........");
        // 0, 1, 7 are the same; so are 3, 6, which are those turned round; 2: turned over; 4, 5: larger.
        int[] like = {1, 1, 0, 0, 0, 0, 0, 1};
        due("so many", x.told(2), 8);
        for (int p = 0; p < 8; p++) {
            for (int q = 0; q < 8; q++) {
                if (p != q) {
                    boolean same = like[p] == 1 && like[q] == 1 || p + q == 9 && Math.min(p, q) == 3;
                    due("alike(" + p + ", " + q + ")", x.alike(p, q), same ? 1 : 0);
                }
            }
        }
        BlobRuns far = oneDot(0, 0);
        far.turn(15, 15);
        due("from corner to corner", far.alike(0, 1), 1);
        BlobRuns begins = drawn("##.##", "##..#", "....#");
        due("of one size, not of one form", begins.alike(0, 1), 0);
        BlobRuns below = drawn("################", "########........", "................", "################", "........########");
        due("from rim to rim, not the same below", below.alike(0, 1), 0);
        below.row(4, 255);
        due("from rim to rim, the same below", below.alike(0, 1), 1);
        BlobRuns tail = drawn("###.###", "#.....#");
        due("alike but for the last run", tail.alike(0, 1), 0);
        due("the first alike by 8", byEight(drawn("#...#", ".#.#.", "........", "#.......", ".#......")).alike(0, 1), 0);
        due("alike by 8", byEight(drawn("#...#", ".#...#")).alike(0, 1), 1);
        says("LARGEST: the PART of most SIZE; of like ones the least; NONE.");
        due("the last", drawn("#.##.###").told(9), 2);
        due("the first", drawn("###.##.#").told(9), 0);
        due("of like ones", drawn("#.###.###.###").told(9), 1);
        due("of nothing", new BlobRuns().told(9), NONE);
        due("of all", dark().told(9), 0);
        says("SMALL: how many PARTS are of SIZE n or less.");
        BlobRuns sizes = drawn("#.##.###.####.#");
        int[] upTo = {0, 2, 3, 4, 5, 5};
        for (int n = 0; n < upTo.length; n++) {
            due("small(" + n + ")", sizes.small(n), upTo[n]);
        }
    }

    // ---- 3: draws, undone, images

    private static void draws() {
        says("BY DRAWS: THE SEED (0 at first: each DRAW it becomes it times 1103515245 and 12345, left over by 2 to the 31; "
            + "the DRAW of n is it / 65536, left over by n):");
        due("at first", new BlobRuns().seed(0), 0);
        BigInteger by = BigInteger.valueOf(1103515245), and = BigInteger.valueOf(12345), over = BigInteger.TWO.pow(31);
        for (int seed : new int[] {0, 1, 2, 65535, 65536, 12345, 1073741824, 1999999999, MAX - 1, MAX}) {
            int want = BigInteger.valueOf(seed).multiply(by).add(and).mod(over).intValue();
            BlobRuns x = new BlobRuns();
            x.seed(seed);
            x.drift(1);
            due("the seed after " + seed, seedOf(x), want);
            int place = want / 65536 % 256;
            due("the place drawn from " + seed, x.part(0, 9), place);
        }
        says("n times: a DRAW of 256: that PLACE is TURNED.");
        BlobRuns once = new BlobRuns(), often = new BlobRuns();
        once.drift(60);
        for (int i = 0; i < 60; i++) {
            often.drift(1);
        }
        holds("60 times at once as one by one", seen(once).equals(seen(often)));
        // The same seed draws the same place; turned twice it is light again.
        BlobRuns twice = new BlobRuns();
        twice.drift(1);
        twice.seed(0);
        due("turned back", twice.drift(1), 0);
    }

    private static void undone() {
        says("UNDONE: the latest deeds (row(), turn(), wipe(), fill(), grow(), shrink(), move(), over(), mode(), "
            + "each of the times BY DRAWS) since the IMAGE (30 at most are kept): THE PICTURE, MODE are as ahead of them; THE SEED stays.");
        List<ToIntFunction<BlobRuns>> deeds = Arrays.asList(x -> x.row(5, 9), x -> x.turn(0, 1), x -> x.fill(0), x -> x.wipe(0),
            x -> x.grow(), x -> x.shrink(), x -> x.move(1, -1), x -> x.over(), x -> x.mode(8), x -> x.drift(1));
        for (int k = 0; k < deeds.size(); k++) {
            BlobRuns x = drawn(".......", "..###..", "..#.#..", "..###..");
            x.seed(77);
            List<Integer> before = pictureAndMode(x);
            due("deed " + k + " is taken", deeds.get(k).applyAsInt(x) >= 0 ? 1 : 0, 1);
            holds("deed " + k + " changes something", !pictureAndMode(x).equals(before));
            due("deed " + k + " is one", x.told(10), 5);
            int seed = seedOf(x);
            x.undo(1);
            holds("deed " + k + " is undone", pictureAndMode(x).equals(before));
            due("deed " + k + ": the seed stays", seedOf(x), seed);
            due("deed " + k + ": one less", x.told(10), 4);
        }
        emptyDeeds();
        everyUndo();
        sinceTheImage();
    }

    /** A deed that finds nothing to do is one, too. */
    private static void emptyDeeds() {
        List<ToIntFunction<BlobRuns>> deeds = Arrays.asList(x -> x.row(5, 0), x -> x.grow(), x -> x.shrink(), x -> x.move(0, 0),
            x -> x.move(9, 9));
        for (int k = 0; k < deeds.size(); k++) {
            BlobRuns x = new BlobRuns();
            deeds.get(k).applyAsInt(x);
            due("empty deed " + k, x.told(10), 1);
            due("empty deed " + k + " is undone", x.undo(1), 0);
            due("empty deed " + k + ", then", x.told(10), 0);
        }
    }

    /** So many deeds, so many of them undone, and so many more done then: as if those undone had never been. */
    private static void everyUndo() {
        for (int done = 1; done <= 64; done++) {
            for (int back = 1; back <= Math.min(30, done); back++) {
                BlobRuns x = new BlobRuns(), y = new BlobRuns();
                x.drift(Math.min(done, 32));
                if (done > 32) {
                    x.drift(done - 32);
                }
                for (int left = done - back; left > 0; left -= 60) {
                    y.drift(Math.min(left, 60));
                }
                String call = done + " deeds, undo(" + back + ")";
                due(call, x.undo(back), y.told(1));
                holds(call + ": the picture", pictureAndMode(x).equals(pictureAndMode(y)));
                due(call + ": told(10)", x.told(10), Math.min(30, done) - back);
                due(call + ": undo of one too many", x.undo(Math.min(30, done) - back + 1), NOT);
                x.over();
                x.mode(8);
                due(call + " and two more: told(10)", x.told(10), Math.min(30, Math.min(30, done) - back + 2));
                x.undo(2);
                holds(call + " and two more undone", pictureAndMode(x).equals(pictureAndMode(y)));
            }
        }
    }

    private static void sinceTheImage() {
        BlobRuns x = drawn("#", "#", "#");
        x.keep(1);
        due("nothing since the image", x.undo(1), NOT);
        x.over();
        due("one since the image", x.undo(2), NOT);
        due("one since the image", x.undo(1), 3);
        x.over();
        x.goBack(1);
        due("nothing since it was gone back to", x.undo(1), NOT);
    }

    private static void images() {
        says("IMAGES 0, 1 keep THE PICTURE, MODE, THE SEED.");
        BlobRuns x = drawn(NEST);
        x.seed(5);
        x.keep(0);
        x.over();
        x.mode(8);
        x.seed(MAX);
        x.keep(1);
        x.move(3, 3);
        x.drift(9);
        List<Integer> now = pictureAndMode(x);
        x.goBack(0);
        shows("goBack(0)", x, NEST);
        due("its mode", x.told(0), 4);
        due("its seed", seedOf(x), 5);
        x.goBack(1);
        due("the other's dots", x.told(1), 188);
        due("the other's mode", x.told(0), 8);
        due("the other's seed", seedOf(x), MAX);
        x.move(3, 3);
        x.drift(9);
        holds("one goes on from it", pictureAndMode(x).equals(now));
    }
}
