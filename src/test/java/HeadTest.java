import java.io.IOException;
import java.nio.file.Files;
import java.nio.file.Path;
import java.util.function.ToIntFunction;
import java.util.regex.Matcher;
import java.util.regex.Pattern;

/** What the document says from its first line to its terms: what the class is, how long it is used, its face. */
public final class HeadTest extends Check {
    private static final Path DOCUMENT = Path.of("../shared/DOC.md"), SOURCE = Path.of("src/main/java/BlobRuns.java");

    // Two rings, one in the other's hole, with a dot in the inner one's; a part joined by a corner alone.
    private static final String[] SCENE = {
        "#######.........",
        "#.....#.........",
        "#.###.#.........",
        "#.#.#.#.........",
        "#.###.#.........",
        "#.....#.........",
        "#######.........",
        ".......##.......",
    };

    public static void main(String[] args) throws IOException {
        partsAreATree();
        deeds();
        asked();
        usedForSoManyCalls();
        saidAllBetween("## What it is", "## The public face");
        face(Files.readString(SOURCE));
        end();
    }

    private static void partsAreATree() {
        remark("Parts of a picture of dots:");
        says("a picture of a few rows of dark and light dots is parted, by its runs joined from row to row, into dark parts and light ones;");
        BlobRuns x = drawn(SCENE);
        tells("the scene", x, 4, 34, 3, 2, 3, 1001);
        says("light ones that the rim does not reach are holes of a dark part,");
        holes(x, 0, 16, 0, 1, 17);
        holes(x, 1, 1, 1, 0, 51);
        due("what the rim reaches is none", x.dot(1, 7, 2), NONE);
        says("and in a hole there may lie dark parts again, so that all parts are a tree;");
        parts(x, 0, 24, 48, 0, 6, 0, 6, 1, NONE, 0, 0);
        parts(x, 1, 8, 16, 2, 4, 2, 4, 1, 0, 1, 34);
        parts(x, 2, 2, 6, 7, 7, 7, 8, 0, NONE, 0, 119);
        for (int number = 0; number < 40; number++) {
            isATree(drifted(number), "drifted from " + number);
        }
        isATree(rings(), "rings");
        isATree(byEight(checkers()), "checkers by 8");
        says("dots joined by four sides, or by eight;");
        due("parts by 8", byEight(x).told(2), 2);
        due("the corner joins", x.dot(7, 7, 1), 0);
    }

    private static BlobRuns drifted(int seed) {
        BlobRuns x = new BlobRuns();
        x.seed(seed);
        for (int k = 0; k < 4; k++) {
            x.drift(60);
        }
        x.mode(seed % 2 == 0 ? 4 : 8);
        return x;
    }

    /** From every part, one goes by holes to the open, by as many as it is deep; all holes and parts are counted once. */
    private static void isATree(BlobRuns x, String name) {
        int parts = x.told(2), holes = x.told(3), inHoles = 0, ofParts = 0, deepest = NONE;
        int[] around = new int[parts];
        for (int p = 0; p < parts; p++) {
            int hole = x.part(p, 7);
            around[p] = hole == NONE ? NONE : x.hole(hole, 1);
            holds(name + ": what is around part " + p + " comes ahead of it", around[p] < p);
            int steps = 0;
            for (int at = around[p]; at != NONE && steps < parts; at = around[at]) {
                steps++;
            }
            due(name + ": part(" + p + ", 8)", x.part(p, 8), steps);
            deepest = Math.max(deepest, steps);
            inHoles += hole == NONE ? 0 : 1;
            ofParts += x.part(p, 6);
        }
        due(name + ": told(8)", x.told(8), deepest);
        due(name + ": holes of all parts", ofParts, holes);
        int lying = 0;
        for (int h = 0; h < holes; h++) {
            lying += x.hole(h, 2);
        }
        due(name + ": parts in all holes", lying, inHoles);
    }

    private static void deeds() {
        says("rows told, dots turned, parts wiped out, holes filled, all grown and shrunk, moved, turned over, drawn by draws, undone;");
        deed("row(9, 3): parts then", 4, x -> x.row(9, 3));
        deed("turn(15, 15)", 1, x -> x.turn(15, 15));
        deed("wipe(1)", 8, x -> x.wipe(1));
        deed("fill(1)", 1, x -> x.fill(1));
        deed("grow(): both holes, two sides of the outer ring, four of the part outside", 17 + 14 + 4, x -> x.grow());
        deed("shrink(): nothing is thick enough", 34, x -> x.shrink());
        deed("move(0, -1): a side is lost", 27, x -> x.move(0, -1));
        deed("over()", 222, x -> x.over());
        deed("drift(1): place 0 is drawn first", 33, x -> x.drift(1));
    }

    private static void deed(String call, int want, ToIntFunction<BlobRuns> made) {
        BlobRuns x = drawn(SCENE);
        due(call, made.applyAsInt(x), want);
        due(call + ", undone", x.undo(1), 34);
        shows(call + ", undone", x, SCENE);
    }

    private static void asked() {
        says("how many parts there are, how large each is, how long its rim, where it lies, how many holes it has, "
            + "in which hole of which part it lies, how deep;");
        for (int number = 0; number < 40; number++) {
            allTogether(drifted(number), "drifted from " + number);
        }
        says("which part a dot is of, what joins if one more dot is dark, what falls apart if one is light;");
        for (int number = 0; number < 20; number++) {
            everyDotTurned(number);
        }
        says("runs of each row, the number that dots, sides and corners make, which is parts less holes;");
        for (int number = 0; number < 40; number++) {
            BlobRuns x = drifted(number);
            int runs = 0;
            for (int r = 0; r < 16; r++) {
                runs += x.rowAt(r, 1);
            }
            due("runs of all rows, drifted from " + number, x.told(6), runs);
            due("dots, sides, corners, drifted from " + number, x.told(5), 1000 + dotsSidesCorners(x));
        }
        says("parts alike, the largest;");
        BlobRuns x = drawn("##.##.####", "#..#......");
        due("alike(0, 1)", x.alike(0, 1), 1);
        due("alike(1, 2)", x.alike(1, 2), 0);
        due("the largest", x.told(9), 2);
        says("images to go on from.");
        x.keep(1);
        x.over();
        x.goBack(1);
        due("row(2, 3), gone on", x.row(2, 3), 3);
        shows("gone on", x, "##.##.####", "#..#......", "##");
    }

    /** Sizes, rims and boxes of the parts, against the dots of which they are. */
    private static void allTogether(BlobRuns x, String name) {
        int parts = x.told(2), dots = 0, rims = 0;
        for (int p = 0; p < parts; p++) {
            dots += x.part(p, 0);
            rims += x.part(p, 1);
            due(name + ": the least place of part " + p, x.part(p, 9) / 16, x.part(p, 2));
            due(name + ": the part there", x.dot(x.part(p, 9) / 16, x.part(p, 9) % 16, 1), p);
        }
        due(name + ": dots of all parts", dots, x.told(1));
        due(name + ": rims of all parts", rims, x.told(7));
        due(name + ": all parts are so small", x.small(256), parts);
    }

    /** JOINS and SPLITS, against the parts that there are once the dot is turned. */
    private static void everyDotTurned(int seed) {
        for (int r = 0; r < 16; r++) {
            BlobRuns x = drifted(seed);
            for (int c = 0; c < 16; c++) {
                boolean dark = x.dot(r, c, 0) == 1;
                String at = "drifted from " + seed + ", at " + r + ", " + c;
                int parts = x.told(2), told = x.dot(r, c, dark ? 4 : 3);
                holds(at + ": a dark dot is of a part, no light one is", dark == (x.dot(r, c, 1) != NONE));
                x.turn(r, c);
                due(at + ": parts once it is turned", x.told(2), dark ? parts - 1 + told : parts - told + 1);
                x.undo(1);
            }
        }
    }

    /**
     * By mode 8 a dot takes its sides and corners with it: corners less sides and dots. By mode 4 only what dark dots
     * have between them counts: dots less sides between two, and corners amid four.
     */
    private static int dotsSidesCorners(BlobRuns x) {
        boolean any = x.told(0) == 8;
        int sides = 0, corners = 0;
        for (int r = 0; r <= 16; r++) {
            int above = r > 0 ? x.rowAt(r - 1, 0) : 0, below = r < 16 ? x.rowAt(r, 0) : 0;
            int lying = any ? above | below : above & below;
            int upright = any ? below | below << 1 : below & below << 1;
            sides += Integer.bitCount(lying) + Integer.bitCount(upright);
            corners += Integer.bitCount(any ? lying | lying << 1 : lying & lying << 1);
        }
        return x.told(1) - sides + corners;
    }

    private static void usedForSoManyCalls() {
        says("An object is used for at most 512 calls after it has been made; what later calls answer is free.");
        BlobRuns x = new BlobRuns();
        Model model = new Model();
        for (int call = 1; call <= 512; call++) {
            String name = "call " + call;
            switch (call % 8) {
                case 0 -> due(name + ": told(1)", x.told(1), model.told(1));
                case 1 -> due(name + ": drift(60)", x.drift(60), model.drift(60));
                case 2 -> due(name + ": told(8)", x.told(8), model.told(8));
                case 3 -> due(name + ": dot(7, 7, 4)", x.dot(7, 7, 4), model.dot(7, 7, 4));
                case 4 -> due(name + ": undo(29)", x.undo(29), model.undo(29));
                case 5 -> due(name + ": keep(1)", x.keep(1), model.keep(1));
                case 6 -> due(name + ": over()", x.over(), model.over());
                default -> due(name + ": goBack(1)", x.goBack(1), model.goBack(1));
            }
        }
    }

    // ---- the public face

    /** Everything that the document writes out stands in the file, in the same order and with the same words. */
    private static void face(String source) throws IOException {
        about("the public face");
        if (!Files.exists(DOCUMENT)) {
            System.out.println("there is no " + DOCUMENT + " to compare the face with");
            return;
        }
        String document = Files.readString(DOCUMENT);
        int from = document.indexOf("```java") + "```java".length();
        int at = 0, members = 0;
        for (String line : document.substring(from, document.indexOf("```", from)).split("\n")) {
            String member = line.strip().replaceAll("\\);$", ") {");
            if (member.isEmpty() || member.equals("}")) {
                continue;
            }
            int found = source.indexOf("\n" + (members == 0 ? "" : "    ") + member, at);
            holds("the file goes on with " + member, found >= at);
            at = Math.max(at, found);
            members++;
        }
        due("lines of the face", members, 24);
        headings(document, source);
    }

    /** What the interface says ahead of calls stands ahead of all of them, and nothing else between. */
    private static void headings(String document, String source) {
        Matcher found = Pattern.compile("Ahead of the calls (.*) the interface says: (---- .*)\\.").matcher(document);
        int headings = 0;
        while (found.find()) {
            headings++;
            for (String call : found.group(1).replace("`", "").split(", | ")) {
                int at = source.indexOf("public int " + call + "(");
                int heading = source.lastIndexOf("// ----", Math.max(at, 0));
                holds("ahead of " + call, at >= 0 && heading >= 0 && source.startsWith("// " + found.group(2) + "\n", heading));
            }
        }
        due("headings", headings, 4);
    }
}
