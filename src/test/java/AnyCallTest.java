import java.util.function.IntBinaryOperator;
import java.util.function.IntUnaryOperator;

/** Any arguments in any state: no call throws, and each answers what is counted, NONE, or a refusal of its own. */
public final class AnyCallTest extends Refusals {
    private static final int[] ANY = {MIN, MIN + 1, -1000000001, -65536, -257, -256, -60, -31, -17, -16, -15, -8, -4, -1, 0, 1, 2, 3, 4,
        5, 7, 8, 9, 10, 11, 14, 15, 16, 17, 30, 31, 32, 60, 61, 97, 98, 127, 128, 129, 255, 256, 257, 65535, 65536, MAX - 1, MAX};

    private final Scene scene;
    private BlobRuns x;
    private int calls = 0;

    private AnyCallTest(Scene scene) {
        this.scene = scene;
        this.x = scene.made().get();
    }

    public static void main(String[] args) {
        about("any call");
        for (Scene s : SCENES) {
            AnyCallTest test = new AnyCallTest(s);
            test.questions();
            test.deeds();
        }
        end();
    }

    /** An object is used for 512 calls, so it is made anew in time. */
    private BlobRuns fresh() {
        calls++;
        if (calls % 300 == 0) {
            x = scene.made().get();
        }
        return x;
    }

    private void one(String name, int least, int most, int refusals, IntUnaryOperator call) {
        two(name, least, most, refusals, (a, b) -> call.applyAsInt(a), 0);
    }

    /** Refusals are told by their last digits: 1 UNKNOWN, 2 OUTSIDE, 4 NOT, added up. */
    private void two(String name, int least, int most, int refusals, IntBinaryOperator call, int... seconds) {
        for (int a : ANY) {
            for (int b : seconds) {
                int got;
                try {
                    got = call.applyAsInt(a, b);
                } catch (RuntimeException thrown) {
                    holds(scene.name() + ": " + name + " of " + a + ", " + b + " throws " + thrown, false);
                    continue;
                }
                boolean refused = got == UNKNOWN && (refusals & 1) != 0 || got == OUTSIDE && (refusals & 2) != 0
                    || got == NOT && (refusals & 4) != 0;
                holds(scene.name() + ": " + name + " of " + a + ", " + b + ", which answers " + got,
                    refused || got >= least && got <= most);
            }
        }
    }

    private void questions() {
        one("told", NONE, 1128, 2, a -> fresh().told(a));
        two("rowAt", 0, 65535, 3, (a, b) -> fresh().rowAt(a, b), ANY);
        for (int what : ANY) {
            two("dot, what " + what, NONE, 127, 3, (a, b) -> fresh().dot(a, b, what), ANY);
        }
        two("part", NONE, 512, 3, (a, b) -> fresh().part(a, b), ANY);
        two("hole", 0, 238, 3, (a, b) -> fresh().hole(a, b), ANY);
        two("alike", 0, 1, 1, (a, b) -> fresh().alike(a, b), ANY);
        one("small", 0, 128, 2, a -> fresh().small(a));
    }

    private void deeds() {
        two("row", 0, 128, 3, (a, b) -> fresh().row(a, b), ANY);
        two("turn", 0, 1, 1, (a, b) -> fresh().turn(a, b), ANY);
        two("move", 0, 256, 2, (a, b) -> fresh().move(a, b), ANY);
        one("wipe", 1, 256, 1, a -> fresh().wipe(a));
        one("fill", 1, 196, 1, a -> fresh().fill(a));
        one("grow", 0, 255, 0, a -> fresh().grow());
        one("shrink", 0, 256, 0, a -> fresh().shrink());
        one("over", 0, 256, 0, a -> fresh().over());
        one("mode", 0, 128, 6, a -> fresh().mode(a));
        one("drift", 0, 256, 2, a -> fresh().drift(a));
        one("undo", 0, 256, 6, a -> fresh().undo(a));
        one("seed", 0, MAX, 2, a -> fresh().seed(a));
        one("keep", 1, 1, 1, a -> fresh().keep(a));
        one("goBack", 1, 1, 5, a -> fresh().goBack(a));
    }
}
