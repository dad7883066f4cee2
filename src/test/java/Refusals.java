import java.util.HashMap;
import java.util.List;
import java.util.Map;
import java.util.function.Supplier;
import java.util.function.ToIntFunction;

/** The ways in which a call can be wrong, promise by promise: the refusal that is due, and that it changes nothing. */
abstract class Refusals extends Check {
    /** An object that can be made again and again in the same state, and what is wrong to ask of it. */
    record Scene(String name, Supplier<BlobRuns> made, int mode, int parts, int holes, int undoable, boolean... kept) { }

    static final List<Scene> SCENES = List.of(
        new Scene("new", BlobRuns::new, 4, 0, 0, 0, false, false),
        new Scene("busy", Refusals::busy, 4, 8, 3, 17, true, false),
        new Scene("brim", Refusals::brim, 8, 1, 98, 30, true, true),
        new Scene("all dark", Refusals::allDark, 4, 1, 0, 1, false, true),
        new Scene("checkers", Check::checkers, 4, 128, 0, 16, false, false));

    private static final int[] NO_LINES = {-1, 16, 17, 31, 32, 256, -16, MIN, MAX};
    private static final Map<String, List<Integer>> UNTOUCHED = new HashMap<>();

    /** An image by mode 8, then the nest by mode 4. */
    private static BlobRuns busy() {
        BlobRuns x = new BlobRuns();
        x.seed(4711);
        x.mode(8);
        x.drift(20);
        x.keep(0);
        x.mode(4);
        for (int r = 0; r < 16; r++) {
            x.row(r, set(NEST[r]));
        }
        x.seed(12);
        return x;
    }

    /** Both images, and more deeds since them than are kept. */
    private static BlobRuns brim() {
        BlobRuns x = new BlobRuns();
        x.row(2, 7);
        x.keep(0);
        x.over();
        x.seed(MAX);
        x.keep(1);
        x.mode(8);
        for (int r = 0; r < 16; r++) {
            x.row(r, 4369 + r);
        }
        for (int r = 0; r < 16; r++) {
            x.row(r, r % 2 == 0 ? 21845 : 43690);
        }
        return x;
    }

    private static BlobRuns allDark() {
        BlobRuns x = new BlobRuns();
        x.row(3, 6);
        x.keep(1);
        x.row(3, 0);
        x.undo(1);
        x.goBack(1);
        x.row(3, 0);
        x.keep(1);
        x.over();
        return x;
    }

    /** The call is refused so, and the object is then as one that was never asked. */
    private static void refuse(Scene s, String call, int want, ToIntFunction<BlobRuns> made) {
        unchanged(s, call, x -> due(s.name() + ": " + call, made.applyAsInt(x), want));
    }

    interface Deed {
        void on(BlobRuns x);
    }

    static void unchanged(Scene s, String call, Deed deed) {
        BlobRuns x = s.made().get();
        deed.on(x);
        List<Integer> untouched = UNTOUCHED.computeIfAbsent(s.name(), n -> everything(s.made().get()));
        holds(s.name() + ": " + call + " changes nothing", everything(x).equals(untouched));
    }

    /** The numbers that a scene is told to have are those that it has, or else nothing would be tested. */
    static void scenesAreSo() {
        for (Scene s : SCENES) {
            BlobRuns x = s.made().get();
            due(s.name() + ": mode", x.told(0), s.mode());
            due(s.name() + ": parts", x.told(2), s.parts());
            due(s.name() + ": holes", x.told(3), s.holes());
            due(s.name() + ": undoable", x.told(10), s.undoable());
        }
    }

    static void ofPromise(int promise) {
        for (Scene s : SCENES) {
            ofPromise(promise, s);
        }
    }

    private static void ofPromise(int promise, Scene s) {
        switch (promise) {
            case 2 -> told(s);
            case 3 -> rowAt(s);
            case 4 -> dot(s);
            case 5 -> part(s);
            case 6 -> hole(s);
            case 7 -> row(s);
            case 8 -> turn(s);
            case 9 -> wipe(s);
            case 10 -> fill(s);
            case 13 -> move(s);
            case 15 -> mode(s);
            case 16 -> drift(s);
            case 17 -> undo(s);
            case 18 -> alike(s);
            case 19 -> small(s);
            case 20 -> seed(s);
            case 21 -> keep(s);
            case 22 -> goBack(s);
            default -> { }
        }
    }

    private static int[] noNumbers(int count) {
        return new int[] {-1, count, count + 1, 255, 256, 1000, MIN, MAX, UNKNOWN, -256};
    }

    private static void told(Scene s) {
        for (int what : new int[] {-1, 11, 12, 16, MIN, MAX}) {
            refuse(s, "told(" + what + ")", OUTSIDE, x -> x.told(what));
        }
    }

    private static void rowAt(Scene s) {
        for (int r : NO_LINES) {
            for (int what : new int[] {0, 1, 2, -1, MAX}) {
                refuse(s, "rowAt(" + r + ", " + what + ")", UNKNOWN, x -> x.rowAt(r, what));
            }
        }
        for (int r : new int[] {0, 7, 15}) {
            for (int what : new int[] {-1, 2, 3, MIN, MAX}) {
                refuse(s, "rowAt(" + r + ", " + what + ")", OUTSIDE, x -> x.rowAt(r, what));
            }
        }
    }

    private static void dot(Scene s) {
        for (int line : NO_LINES) {
            for (int other : new int[] {0, 15, 16, -1}) {
                for (int what : new int[] {0, 2, 3, 4, 5, -1}) {
                    refuse(s, "dot(" + line + ", " + other + ", " + what + ")", UNKNOWN, x -> x.dot(line, other, what));
                    refuse(s, "dot(" + other + ", " + line + ", " + what + ")", UNKNOWN, x -> x.dot(other, line, what));
                }
            }
        }
        for (int place : new int[] {0, 1, 17, 34, 255}) {
            for (int what : new int[] {-1, 5, 6, MIN, MAX}) {
                refuse(s, "dot of " + place + ", what " + what, OUTSIDE, x -> x.dot(place / 16, place % 16, what));
            }
        }
    }

    private static void part(Scene s) {
        for (int p : noNumbers(s.parts())) {
            for (int what : new int[] {0, 7, 9, 10, -1}) {
                refuse(s, "part(" + p + ", " + what + ")", UNKNOWN, x -> x.part(p, what));
            }
        }
        for (int what : new int[] {-1, 10, 11, MIN, MAX}) {
            int least = 0, last = s.parts() - 1, want = s.parts() > 0 ? OUTSIDE : UNKNOWN;
            refuse(s, "part(" + least + ", " + what + ")", want, x -> x.part(least, what));
            refuse(s, "part(" + last + ", " + what + ")", want, x -> x.part(last, what));
        }
    }

    private static void hole(Scene s) {
        for (int h : noNumbers(s.holes())) {
            for (int what : new int[] {0, 1, 2, 3, 4, -1}) {
                refuse(s, "hole(" + h + ", " + what + ")", UNKNOWN, x -> x.hole(h, what));
            }
        }
        for (int what : new int[] {-1, 4, 5, MIN, MAX}) {
            int least = 0, last = s.holes() - 1, want = s.holes() > 0 ? OUTSIDE : UNKNOWN;
            refuse(s, "hole(" + least + ", " + what + ")", want, x -> x.hole(least, what));
            refuse(s, "hole(" + last + ", " + what + ")", want, x -> x.hole(last, what));
        }
    }

    private static void row(Scene s) {
        for (int r : NO_LINES) {
            for (int set : new int[] {0, 5, 65535, 65536, -1}) {
                refuse(s, "row(" + r + ", " + set + ")", UNKNOWN, x -> x.row(r, set));
            }
        }
        for (int r : new int[] {0, 8, 15}) {
            for (int set : new int[] {-1, 65536, 65537, -65536, MIN, MAX}) {
                refuse(s, "row(" + r + ", " + set + ")", OUTSIDE, x -> x.row(r, set));
            }
        }
    }

    private static void turn(Scene s) {
        for (int line : NO_LINES) {
            for (int other : new int[] {0, 15, 16, -1}) {
                refuse(s, "turn(" + line + ", " + other + ")", UNKNOWN, x -> x.turn(line, other));
                refuse(s, "turn(" + other + ", " + line + ")", UNKNOWN, x -> x.turn(other, line));
            }
        }
    }

    private static void wipe(Scene s) {
        for (int p : noNumbers(s.parts())) {
            refuse(s, "wipe(" + p + ")", UNKNOWN, x -> x.wipe(p));
        }
    }

    private static void fill(Scene s) {
        for (int h : noNumbers(s.holes())) {
            refuse(s, "fill(" + h + ")", UNKNOWN, x -> x.fill(h));
        }
    }

    private static void move(Scene s) {
        for (int far : new int[] {-16, 16, 17, -17, 32, -32, MIN, MAX}) {
            for (int other : new int[] {0, 15, -15, 16, -16}) {
                refuse(s, "move(" + far + ", " + other + ")", OUTSIDE, x -> x.move(far, other));
                refuse(s, "move(" + other + ", " + far + ")", OUTSIDE, x -> x.move(other, far));
            }
        }
    }

    private static void mode(Scene s) {
        for (int m : new int[] {-8, -4, -1, 0, 1, 2, 3, 5, 6, 7, 9, 12, 16, MIN, MAX}) {
            refuse(s, "mode(" + m + ")", OUTSIDE, x -> x.mode(m));
        }
        refuse(s, "mode as it is", NOT, x -> x.mode(s.mode()));
    }

    private static void drift(Scene s) {
        for (int n : new int[] {-1, 0, 61, 62, 256, -60, MIN, MAX}) {
            refuse(s, "drift(" + n + ")", OUTSIDE, x -> x.drift(n));
        }
    }

    private static void undo(Scene s) {
        for (int n : new int[] {-1, 0, 31, 32, -30, MIN, MAX}) {
            refuse(s, "undo(" + n + ")", OUTSIDE, x -> x.undo(n));
        }
        for (int n = s.undoable() + 1; n <= 30; n++) {
            int more = n;
            refuse(s, "undo(" + n + ")", NOT, x -> x.undo(more));
        }
    }

    private static void alike(Scene s) {
        for (int p : noNumbers(s.parts())) {
            for (int q : new int[] {0, s.parts() - 1, s.parts(), -1}) {
                refuse(s, "alike(" + p + ", " + q + ")", UNKNOWN, x -> x.alike(p, q));
                refuse(s, "alike(" + q + ", " + p + ")", UNKNOWN, x -> x.alike(q, p));
            }
        }
        for (int p = 0; p < s.parts(); p++) {
            int twice = p;
            refuse(s, "alike(" + p + ", " + p + ")", UNKNOWN, x -> x.alike(twice, twice));
        }
    }

    private static void small(Scene s) {
        for (int n : new int[] {-1, 257, 258, MIN, MAX}) {
            refuse(s, "small(" + n + ")", OUTSIDE, x -> x.small(n));
        }
    }

    private static void seed(Scene s) {
        for (int v : new int[] {-1, -2, MIN, MIN + 1}) {
            refuse(s, "seed(" + v + ")", OUTSIDE, x -> x.seed(v));
        }
    }

    private static void keep(Scene s) {
        for (int i : new int[] {-1, 2, 3, 30, MIN, MAX}) {
            refuse(s, "keep(" + i + ")", UNKNOWN, x -> x.keep(i));
        }
    }

    private static void goBack(Scene s) {
        for (int i : new int[] {-1, 2, 3, 30, MIN, MAX}) {
            refuse(s, "goBack(" + i + ")", UNKNOWN, x -> x.goBack(i));
        }
        for (int i = 0; i < 2; i++) {
            int image = i;
            if (!s.kept()[i]) {
                refuse(s, "goBack(" + i + "), not kept", NOT, x -> x.goBack(image));
            }
        }
    }
}
