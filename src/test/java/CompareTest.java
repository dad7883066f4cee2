import java.util.ArrayList;
import java.util.List;
import java.util.Random;

/** Long runs of calls, right and wrong ones, answered by BlobRuns and by Model: all answers must be the same. */
public final class CompareTest {
    private static final int[] FAR = {-1, 16, 30, 61, 128, 256, 257, 65536, 99999, Integer.MIN_VALUE, Integer.MAX_VALUE, -16, -1000};

    private final Random random;
    private final BlobRuns x = new BlobRuns();
    private final Model model = new Model();
    private final List<String> calls = new ArrayList<>();
    private boolean wrong = false;

    private CompareTest(int number) {
        random = new Random(number);
    }

    public static void main(String[] args) {
        int runs = args.length > 0 ? Integer.parseInt(args[0]) : 300;
        int wrongRuns = 0;
        for (int number = 0; number < runs && wrongRuns < 3; number++) {
            CompareTest run = new CompareTest(number);
            run.begin(number % 5);
            while (run.calls.size() < 512 && !run.wrong) {
                run.oneCall();
            }
            wrongRuns += run.wrong ? 1 : 0;
            if (run.wrong) {
                System.out.println("run " + number + ": " + run.calls);
            }
        }
        System.out.println(wrongRuns == 0 ? "all runs answer as the model" : "some runs do not answer as the model");
        System.exit(wrongRuns == 0 ? 0 : 1);
    }

    private void begin(int kind) {
        for (int r = 0; r < 16 && kind != 4; r++) {
            int set = random.nextInt(65536);
            if (kind == 1) {
                set |= random.nextInt(65536);
            } else if (kind == 2) {
                set &= random.nextInt(65536);
            } else if (kind == 3) {
                set = nested(r) ^ (random.nextInt(4) == 0 ? 1 << random.nextInt(16) : 0);
            }
            due("row(" + r + ", " + set + ")", x.row(r, set), model.row(r, set));
        }
    }

    /** A row of rings in rings. */
    private static int nested(int r) {
        int set = 0;
        for (int c = 0; c < 16; c++) {
            int ring = Math.min(Math.min(r, 15 - r), Math.min(c, 15 - c));
            set |= ring % 2 == 0 ? 1 << c : 0;
        }
        return set;
    }

    private int number(int least, int most) {
        return random.nextInt(25) == 0 ? FAR[random.nextInt(FAR.length)] : least + random.nextInt(most - least + 1);
    }

    private int aPart() {
        return number(0, Math.max(0, model.told(2) - 1 + random.nextInt(20) / 19));
    }

    private int aHole() {
        return number(0, Math.max(0, model.told(3) - 1 + random.nextInt(20) / 19));
    }

    private void due(String call, int got, int want) {
        calls.add(call + " = " + got);
        if (got != want) {
            wrong = true;
            System.out.println(call + " answered " + got + ", due is " + want);
        }
    }

    private void oneCall() {
        if (random.nextInt(10) < 7) {
            ask();
        } else {
            act();
        }
    }

    private void ask() {
        int a = number(0, 15), b = number(0, 15), p = aPart(), q = aPart(), h = aHole();
        int what = number(0, 10);
        switch (random.nextInt(7)) {
            case 0 -> due("told(" + what + ")", x.told(what), model.told(what));
            case 1 -> {
                int either = number(0, 1);
                due("rowAt(" + a + ", " + either + ")", x.rowAt(a, either), model.rowAt(a, either));
            }
            case 2 -> {
                int of = number(0, 4);
                due("dot(" + a + ", " + b + ", " + of + ")", x.dot(a, b, of), model.dot(a, b, of));
            }
            case 3 -> due("part(" + p + ", " + what + ")", x.part(p, what), model.part(p, what));
            case 4 -> {
                int of = number(0, 3);
                due("hole(" + h + ", " + of + ")", x.hole(h, of), model.hole(h, of));
            }
            case 5 -> due("alike(" + p + ", " + q + ")", x.alike(p, q), model.alike(p, q));
            default -> {
                int n = random.nextBoolean() ? number(0, 12) : number(0, 256);
                due("small(" + n + ")", x.small(n), model.small(n));
            }
        }
    }

    private void act() {
        int a = number(0, 15), b = number(0, 15), p = aPart(), h = aHole();
        switch (random.nextInt(21)) {
            case 0, 1, 2 -> {
                int set = random.nextInt(20) == 0 ? FAR[random.nextInt(FAR.length)] : random.nextInt(65536);
                due("row(" + a + ", " + set + ")", x.row(a, set), model.row(a, set));
            }
            case 3, 4, 5 -> due("turn(" + a + ", " + b + ")", x.turn(a, b), model.turn(a, b));
            case 6 -> due("wipe(" + p + ")", x.wipe(p), model.wipe(p));
            case 7 -> due("fill(" + h + ")", x.fill(h), model.fill(h));
            case 8 -> due("grow()", x.grow(), model.grow());
            case 9 -> due("shrink()", x.shrink(), model.shrink());
            case 10 -> {
                int down = number(-3, 3), right = random.nextInt(4) == 0 ? number(-15, 15) : number(-2, 2);
                due("move(" + down + ", " + right + ")", x.move(down, right), model.move(down, right));
            }
            case 11 -> due("over()", x.over(), model.over());
            case 12, 13 -> {
                int m = random.nextInt(10) == 0 ? number(0, 9) : 4 + 4 * random.nextInt(2);
                due("mode(" + m + ")", x.mode(m), model.mode(m));
            }
            case 14, 15 -> {
                int n = number(0, 61);
                due("drift(" + n + ")", x.drift(n), model.drift(n));
            }
            case 16, 17 -> {
                int n = random.nextInt(3) == 0 ? number(0, 31) : number(1, 4);
                due("undo(" + n + ")", x.undo(n), model.undo(n));
            }
            case 18 -> {
                int v = random.nextInt();
                due("seed(" + v + ")", x.seed(v), model.seed(v));
            }
            case 19 -> {
                int i = number(0, 2);
                due("keep(" + i + ")", x.keep(i), model.keep(i));
            }
            default -> {
                int i = number(0, 2);
                due("goBack(" + i + ")", x.goBack(i), model.goBack(i));
            }
        }
    }
}
