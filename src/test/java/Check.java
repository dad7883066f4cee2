import java.io.IOException;
import java.nio.file.Files;
import java.nio.file.Path;
import java.util.ArrayList;
import java.util.Arrays;
import java.util.List;

/** What the tests have in common: answers that are due, pictures that are drawn, sentences of the document. */
abstract class Check {
    static final int NONE = -1, UNKNOWN = -1000000001, OUTSIDE = -1000000002, NOT = -1000000003;
    static final int MIN = Integer.MIN_VALUE, MAX = Integer.MAX_VALUE;
    private static final Path DOCUMENT = Path.of("../shared/DOC.md");

    // A ring with two holes; in its left hole a ring with a dot in it; a dot on the rim, and two alike.
    static final String[] NEST = {
        "................",
        ".###########....",
        ".#.......#.#..#.",
        ".#.#####.#.#....",
        ".#.#...#.###....",
        ".#.#.#.#...#..#.",
        ".#.#...#...#....",
        ".#.#####...#....",
        ".#.........#....",
        ".###########....",
        "................",
        "..##....##......",
        "..#.....#.......",
        "................",
        "................",
        "###.............",
    };

    private static int wrong = 0;
    private static int checks = 0;
    private static String subject = "";
    private static final List<String> said = new ArrayList<>();
    // A sentence whose test asks nothing has no test.
    private static int checksBefore = 0;
    private static boolean asksNothing = true;

    // ---- what is due

    static void due(String call, int got, int want) {
        checks++;
        if (got != want) {
            wrong++;
            System.out.println(subject + ": " + call + " answered " + got + ", due is " + want);
        }
    }

    static void holds(String what, boolean so) {
        due(what, so ? 1 : 0, 1);
    }

    static void about(String what) {
        subject = what;
    }

    /** The next sentence of the document; the checks that follow are its test. */
    static void says(String words) {
        endSentence();
        remark(words);
        asksNothing = false;
    }

    /** A sentence of the document that promises nothing that could be asked. */
    static void remark(String words) {
        endSentence();
        said.add(words);
        subject = words.length() > 70 ? words.substring(0, 70) + ".." : words;
        checksBefore = checks;
        asksNothing = true;
    }

    private static void endSentence() {
        if (!asksNothing && checks == checksBefore) {
            wrong++;
            System.out.println(subject + ": no check stands behind it");
        }
        asksNothing = true;
    }

    /** The sentences that were said are, in their order, all that the document says between two of its lines. */
    static void saidAllBetween(String from, String to) throws IOException {
        endSentence();
        if (!Files.exists(DOCUMENT)) {
            System.out.println("there is no " + DOCUMENT + " to compare the sentences with");
            return;
        }
        String text = Files.readString(DOCUMENT);
        String part = text.substring(text.indexOf(from), text.indexOf(to));
        String document = part.replaceAll("(?m)^(## .*|Ahead of the calls .*|```.*)$", " ").replace("========", " ")
            .replaceAll("\\s+", " ").trim();
        String tested = String.join(" ", said);
        int same = 0;
        while (same < Math.min(document.length(), tested.length()) && document.charAt(same) == tested.charAt(same)) {
            same++;
        }
        about("the sentences from " + from + " on");
        holds("the document goes on \"" + document.substring(same, Math.min(document.length(), same + 60))
            + "\", the tests \"" + tested.substring(same, Math.min(tested.length(), same + 60)) + "\"", document.equals(tested));
        said.clear();
    }

    static void end() {
        endSentence();
        System.out.println(checks + " checks, " + wrong + " wrong");
        System.exit(wrong == 0 ? 0 : 1);
    }

    // ---- pictures

    static int set(String row) {
        int set = 0;
        for (int c = 0; c < row.length(); c++) {
            set |= row.charAt(c) == '#' ? 1 << c : 0;
        }
        return set;
    }

    /** Rows from 0 on as drawn, the others light. */
    static BlobRuns drawn(String... rows) {
        BlobRuns x = new BlobRuns();
        for (int r = 0; r < rows.length; r++) {
            x.row(r, set(rows[r]));
        }
        return x;
    }

    static BlobRuns byEight(BlobRuns x) {
        x.mode(8);
        return x;
    }

    static BlobRuns dark() {
        String[] rows = new String[16];
        Arrays.fill(rows, "################");
        return drawn(rows);
    }

    static BlobRuns checkers() {
        BlobRuns x = new BlobRuns();
        for (int r = 0; r < 16; r++) {
            x.row(r, r % 2 == 0 ? 21845 : 43690);
        }
        return x;
    }

    /** Rings in rings, as deep as 16 rows can have them. */
    static BlobRuns rings() {
        BlobRuns x = new BlobRuns();
        for (int r = 0; r < 16; r++) {
            int set = 0;
            for (int c = 0; c < 16; c++) {
                int ring = Math.min(Math.min(r, 15 - r), Math.min(c, 15 - c));
                set |= ring % 2 == 0 ? 1 << c : 0;
            }
            x.row(r, set);
        }
        return x;
    }

    static BlobRuns oneDot(int r, int c) {
        BlobRuns x = new BlobRuns();
        x.turn(r, c);
        return x;
    }

    static void shows(String call, BlobRuns x, String... rows) {
        for (int r = 0; r < 16; r++) {
            due(call + ", then rowAt(" + r + ", 0)", x.rowAt(r, 0), r < rows.length ? set(rows[r]) : 0);
        }
    }

    static List<Integer> pictureAndMode(BlobRuns x) {
        List<Integer> all = new ArrayList<>();
        for (int r = 0; r < 16; r++) {
            all.add(x.rowAt(r, 0));
        }
        all.add(x.told(0));
        return all;
    }

    static int seedOf(BlobRuns x) {
        int seed = x.seed(0);
        x.seed(seed);
        return seed;
    }

    /** Everything that can be seen but the images and what is undone; few enough calls for an object to be used for 512. */
    static List<Integer> seen(BlobRuns x) {
        List<Integer> all = pictureAndMode(x);
        for (int what = 1; what <= 10; what++) {
            all.add(x.told(what));
        }
        all.add(seedOf(x));
        return all;
    }

    /** All that an object holds: now, back deed by deed, and its images. It is used up by it (some 250 calls). */
    static List<Integer> everything(BlobRuns x) {
        List<Integer> all = seen(x);
        for (int k = 0; k < 31; k++) {
            all.add(x.undo(1));
            all.add(x.told(0));
            all.add(x.told(6));
            all.add(x.told(7));
        }
        all.addAll(seen(x));
        for (int i = 0; i < 2; i++) {
            all.add(x.goBack(i));
            all.addAll(seen(x));
        }
        return all;
    }

    // ---- rows of answers

    static void tells(String name, BlobRuns x, int... want) {
        for (int what = 0; what < want.length; what++) {
            due(name + ": told(" + what + ")", x.told(what), want[what]);
        }
    }

    static void dots(BlobRuns x, int r, int c, int... want) {
        for (int what = 0; what < want.length; what++) {
            due("dot(" + r + ", " + c + ", " + what + ")", x.dot(r, c, what), want[what]);
        }
    }

    static void parts(BlobRuns x, int p, int... want) {
        for (int what = 0; what < want.length; what++) {
            due("part(" + p + ", " + what + ")", x.part(p, what), want[what]);
        }
    }

    static void holes(BlobRuns x, int h, int... want) {
        for (int what = 0; what < want.length; what++) {
            due("hole(" + h + ", " + what + ")", x.hole(h, what), want[what]);
        }
    }
}
