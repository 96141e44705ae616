import java.math.BigDecimal;
import java.math.BigInteger;
import java.util.ArrayList;
import java.util.Arrays;
import java.util.List;

/** Promises 23 to 26, sentence by sentence: the PLACES at both ends, none at all, and the checksum. */
public final class EdgeWouldBeTest {
    private static final Edge EDGE = new Edge("EdgeWouldBeTest");
    private static final int[] NO_PIECE = {Edge.LEAST, -1, 3, 7, 8, Edge.MOST};
    private static final int[] NO_COLOUR = {Edge.LEAST, -1, 3, Edge.MOST};

    public static void main(String[] args) {
        sharpColour();
        sharpBehindTheLastPiece();
        sharpBehindTheThing();
        sharpAtTheEndOfTheRail();
        sharpAtThePlaceOfNow();
        sharpByTheTrainOfThen();
        sharpWithOneRay();
        sharpOfSeveral();
        sharpNone();
        bestPiece();
        bestColour();
        bestAboveTheThing();
        bestBelowTheScreen();
        bestWhereNoOtherStands();
        bestFromOutside();
        bestWithOneRay();
        bestOfSeveral();
        bestNone();
        withoutPiece();
        withoutTellsLight();
        withoutNotOfTheTrain();
        withoutOfEight();
        nothingIsChanged();
        digestOfBenches();
        digestWraps();
        digestCuts();
        digestOfFarImages();
        digestTellsApart();
        EDGE.end();
    }

    private static Lensbench three() {
        Lensbench x = new Lensbench();
        x.lens(20, 8, 10, 1);
        x.lens(60, 12, -7, 2);
        x.stop(40, 3);
        return x;
    }

    private static Lensbench bench(int thing, int screen, int tall) {
        Lensbench x = new Lensbench();
        x.screen(screen);
        x.thing(thing);
        x.tall(tall);
        return x;
    }

    private static Lensbench stopAt(Lensbench x, int place, int half) {
        x.stop(place, half);
        return x;
    }

    private static Lensbench lensAt(Lensbench x, int place, int power, int glass) {
        x.lens(place, 20, power, glass);
        return x;
    }

    // ---- promise 23.

    private static void sharpColour() {
        // The image lies 22.2, 20 or 18.2 behind the lens.
        EDGE.says("23 sharp: colour is not 0 to 2:", () -> lensAt(new Lensbench(), 20, 10, 2));
        EDGE.answers(42, "sharp", 0);
        EDGE.answers(40, "sharp", 1);
        EDGE.answers(38, "sharp", 2);
        for (int colour : NO_COLOUR) {
            EDGE.wrong("sharp", colour);
        }
    }

    private static void sharpBehindTheLastPiece() {
        EDGE.says("23 sharp: behind the last PIECE of the TRAIN of now:", () -> stopAt(bench(0, 99, 4), 40, 20));
        EDGE.answers(41, "sharp", 1);
        EDGE.says("23 sharp: the SCREEN just behind that PIECE:", () -> stopAt(bench(0, 41, 4), 40, 20));
        EDGE.answers(41, "sharp", 1);
        EDGE.says("23 sharp: the SCREEN where that PIECE stands:", () -> stopAt(bench(0, 40, 4), 40, 20));
        EDGE.answers(1, "sharp", 1);
        EDGE.says("23 sharp: the SCREEN between two PIECES:",
                () -> stopAt(stopAt(bench(0, 41, 4), 40, 20), 41, 20));
        EDGE.answers(41, "sharp", 1);
        EDGE.says("23 sharp: the last PIECE at 98:", () -> stopAt(bench(0, 99, 0), 98, 20));
        EDGE.answers(99, "sharp", 1);
    }

    private static void sharpBehindTheThing() {
        EDGE.says("23 sharp: behind the THING:", () -> bench(30, 99, 4));
        EDGE.answers(31, "sharp", 1);
        EDGE.says("23 sharp: behind the THING at 0:", () -> bench(0, 99, 4));
        EDGE.answers(1, "sharp", 1);
        EDGE.says("23 sharp: behind the THING at 98:", () -> bench(98, 99, 4));
        EDGE.answers(99, "sharp", 1);
        EDGE.says("23 sharp: a PIECE at the THING is not of the TRAIN:", () -> stopAt(bench(30, 60, 80), 30, 1));
        EDGE.answers(31, "sharp", 1);
        EDGE.says("23 sharp: a PIECE may stand where the SCREEN would:", () -> stopAt(bench(30, 31, 80), 31, 1));
        EDGE.answers(31, "sharp", 1);
    }

    private static void sharpAtTheEndOfTheRail() {
        // The image lies at 240: all that is on the rail is better the farther it is away.
        EDGE.says("23 sharp: the last PLACE is 99:", () -> lensAt(bench(0, 50, 4), 40, 3, 0));
        for (int colour = 0; colour <= 2; colour++) {
            EDGE.answers(99, "sharp", colour);
        }
    }

    private static void sharpAtThePlaceOfNow() {
        EDGE.says("23 sharp: that of now, too:", () -> lensAt(bench(0, 40, 4), 20, 10, 0));
        EDGE.answers(40, "sharp", 1);
        EDGE.says("23 sharp: a PLACE ahead of that of now:", () -> lensAt(bench(0, 41, 4), 20, 10, 0));
        EDGE.answers(40, "sharp", 1);
        EDGE.says("23 sharp: a PLACE behind that of now:", () -> lensAt(bench(0, 39, 4), 20, 10, 0));
        EDGE.answers(40, "sharp", 1);
    }

    private static void sharpByTheTrainOfThen() {
        // Behind the stop only the middle ray is left, which has no blur; of now it is not of the train.
        EDGE.says("23 sharp: by the TRAIN of then:", () -> stopAt(bench(0, 10, 0), 80, 1));
        EDGE.answers(81, "sharp", 1);
        EDGE.says("23 sharp: by the TRAIN of then, which is that of now:", () -> stopAt(bench(0, 81, 0), 80, 1));
        EDGE.answers(81, "sharp", 1);
    }

    private static void sharpWithOneRay() {
        EDGE.says("23 sharp: none comes behind the STOP:", () -> stopAt(bench(0, 10, 20), 19, 1));
        EDGE.answers(1, "sharp", 1);
        EDGE.says("23 sharp: just one RAY comes behind the STOP:", () -> stopAt(bench(0, 10, 20), 20, 1));
        EDGE.answers(21, "sharp", 1);
    }

    private static void sharpOfSeveral() {
        EDGE.says("23 sharp: of several the smallest one:", () -> stopAt(bench(0, 99, 0), 51, 1));
        EDGE.answers(52, "sharp", 0);
        EDGE.answers(52, "sharp", 1);
        EDGE.answers(52, "sharp", 2);
    }

    private static void sharpNone() {
        EDGE.says("23 sharp: NONE without one:", () -> stopAt(bench(0, 99, 20), 19, 1));
        EDGE.answers(-1, "sharp", 1);
        EDGE.says("23 sharp: one RAY is enough:", () -> stopAt(bench(0, 99, 20), 20, 1));
        EDGE.answers(21, "sharp", 1);
        EDGE.says("23 sharp: NONE at the only PLACE:", () -> stopAt(bench(0, 99, 4), 98, 1));
        EDGE.answers(99, "sharp", 1);
        EDGE.says("23 sharp: NONE at the only PLACE, in the dark:", () -> stopAt(bench(90, 99, 80), 98, 1));
        EDGE.answers(-1, "sharp", 1);
    }

    // ---- promise 24.

    private static void bestPiece() {
        EDGE.says("24 best: there is no such PIECE:", EdgeWouldBeTest::three);
        for (int piece : NO_PIECE) {
            EDGE.out("best", piece, 1);
        }
        EDGE.onlyAsks("best", 0, 1);
        EDGE.onlyAsks("best", 2, 1);
    }

    private static void bestColour() {
        EDGE.says("24 best: colour is not 0 to 2:", EdgeWouldBeTest::three);
        for (int colour : NO_COLOUR) {
            EDGE.wrong("best", 0, colour);
            EDGE.wrong("best", 2, colour);
        }
        // B at the screen is 40 - p * (40 - p) * STRENGTH; 24 would be as good as 16 in blue.
        EDGE.says("24 best: by the COLOUR:",
                () -> stopAt(lensAt(bench(0, 40, 0), 5, 10, 2), 24, 20));
        EDGE.answers(20, "best", 0, 0);
        EDGE.answers(20, "best", 0, 1);
        EDGE.answers(16, "best", 0, 2);
    }

    /** A lens that spreads blurs least at an end; at the far end another piece stands. */
    private static void bestAboveTheThing() {
        EDGE.says("24 best: above that of the THING:", () -> stopAt(lensAt(bench(0, 50, 0), 25, -5, 0), 49, 20));
        EDGE.answers(1, "best", 0, 1);
        EDGE.says("24 best: above that of the THING at 10:", () -> stopAt(lensAt(bench(10, 60, 0), 25, -5, 0), 59, 20));
        EDGE.answers(11, "best", 0, 1);
        EDGE.says("24 best: it stands at the THING now:", () -> stopAt(lensAt(bench(10, 60, 0), 10, -5, 0), 59, 20));
        EDGE.answers(11, "best", 0, 1);
    }

    /** As above, but another piece stands at the near end. */
    private static void bestBelowTheScreen() {
        EDGE.says("24 best: below that of the SCREEN:", () -> stopAt(lensAt(bench(0, 50, 0), 25, -5, 0), 1, 20));
        EDGE.answers(49, "best", 0, 1);
        EDGE.says("24 best: below that of the SCREEN at 60:", () -> stopAt(lensAt(bench(10, 60, 0), 25, -5, 0), 11, 20));
        EDGE.answers(59, "best", 0, 1);
        EDGE.says("24 best: it stands at the SCREEN now:", () -> stopAt(lensAt(bench(10, 60, 0), 60, -5, 0), 11, 20));
        EDGE.answers(59, "best", 0, 1);
        EDGE.says("24 best: one PLACE between THING and SCREEN:", () -> stopAt(bench(50, 52, 4), 51, 20));
        EDGE.answers(51, "best", 0, 1);
        EDGE.says("24 best: one PLACE between THING and SCREEN, it stands elsewhere:",
                () -> stopAt(bench(50, 52, 4), 0, 20));
        EDGE.answers(51, "best", 0, 1);
    }

    private static void bestWhereNoOtherStands() {
        EDGE.says("24 best: at which no other PIECE stands:",
                () -> stopAt(stopAt(bench(0, 99, 0), 5, 1), 51, 20));
        EDGE.answers(52, "best", 0, 1);
        EDGE.says("24 best: at which no other PIECE stands, of either number:",
                () -> stopAt(stopAt(stopAt(bench(0, 99, 0), 51, 20), 5, 1), 52, 20));
        EDGE.answers(53, "best", 1, 1);
        EDGE.says("24 best: its own PLACE, too:", () -> stopAt(bench(0, 99, 0), 51, 1));
        EDGE.answers(51, "best", 0, 1);
        EDGE.says("24 best: its own PLACE alone:",
                () -> stopAt(stopAt(stopAt(bench(0, 4, 0), 1, 20), 2, 1), 3, 20));
        EDGE.answers(2, "best", 1, 1);
    }

    private static void bestFromOutside() {
        EDGE.says("24 best: a PIECE that is not of the TRAIN now:", () -> stopAt(bench(0, 99, 0), 99, 1));
        EDGE.answers(51, "best", 0, 1);
        EDGE.says("24 best: a PIECE at the THING now:", () -> stopAt(bench(0, 99, 0), 0, 1));
        EDGE.answers(51, "best", 0, 1);
    }

    private static void bestWithOneRay() {
        // Ahead of 20 none comes, at 20 that of k = -10 alone.
        EDGE.says("24 best: at least one RAY of the FAN that comes:", () -> stopAt(bench(0, 99, 20), 5, 1));
        EDGE.answers(20, "best", 0, 1);
        EDGE.says("24 best: not one RAY up to 19:", () -> stopAt(bench(0, 20, 20), 5, 1));
        EDGE.answers(-1, "best", 0, 1);
        EDGE.says("24 best: one RAY at 20:", () -> stopAt(bench(0, 21, 20), 5, 1));
        EDGE.answers(20, "best", 0, 1);
    }

    private static void bestOfSeveral() {
        // From 51 on only the middle ray comes.
        EDGE.says("24 best: of several the smallest one:", () -> stopAt(bench(0, 99, 0), 98, 1));
        for (int colour = 0; colour <= 2; colour++) {
            EDGE.answers(51, "best", 0, colour);
        }
        EDGE.says("24 best: the fewer RAYS, the less BLUR:", () -> stopAt(bench(0, 51, 0), 5, 1));
        EDGE.answers(26, "best", 0, 1);
    }

    private static void bestNone() {
        EDGE.says("24 best: NONE without a PLACE between:", () -> stopAt(bench(50, 51, 0), 5, 20));
        EDGE.answers(-1, "best", 0, 1);
        EDGE.says("24 best: NONE, if others stand at each PLACE between:",
                () -> stopAt(stopAt(stopAt(bench(0, 3, 0), 50, 20), 1, 20), 2, 20));
        EDGE.answers(-1, "best", 0, 1);
        EDGE.answers(1, "best", 1, 1);
        EDGE.answers(2, "best", 2, 1);
        EDGE.says("24 best: NONE, if another PIECE cuts all:",
                () -> stopAt(stopAt(bench(0, 99, 5), 1, 1), 50, 20));
        EDGE.answers(-1, "best", 1, 1);
        EDGE.says("24 best: NONE of the tallest THING:", () -> stopAt(bench(0, 95, 80), 5, 1));
        EDGE.answers(-1, "best", 0, 1);
        EDGE.says("24 best: one RAY of the tallest THING:", () -> stopAt(bench(0, 96, 80), 5, 1));
        EDGE.answers(95, "best", 0, 1);
    }

    // ---- promise 25.

    private static void withoutPiece() {
        EDGE.says("25 without: there is no such PIECE:", EdgeWouldBeTest::three);
        for (int piece : NO_PIECE) {
            EDGE.out("without", piece);
        }
        EDGE.onlyAsks("without", 0);
        EDGE.onlyAsks("without", 2);
    }

    private static void withoutTellsLight() {
        EDGE.says("25 without: LIGHT, if the STOP was not there:", () -> stopAt(bench(0, 99, 0), 50, 1));
        EDGE.answers(3, "many", 6);
        EDGE.answers(21, "without", 0);
        EDGE.says("25 without: LIGHT, if the LENS was not there:",
                () -> stopAt(lensAt(bench(0, 99, 0), 20, 10, 0), 40, 1));
        EDGE.answers(21, "many", 6);
        EDGE.answers(3, "without", 0);
        EDGE.answers(21, "without", 1);
        EDGE.says("25 without: LIGHT is that of GREEN:",
                () -> stopAt(stopAt(lensAt(bench(0, 99, 0), 9, 10, 2), 49, 2), 60, 20));
        EDGE.answers(21, "without", 1);
        EDGE.answers(15, "without", 2);
        EDGE.says("25 without: none comes all the same:",
                () -> stopAt(stopAt(bench(0, 99, 80), 1, 1), 2, 1));
        EDGE.answers(0, "without", 0);
        EDGE.answers(0, "without", 1);
    }

    private static void withoutNotOfTheTrain() {
        EDGE.says("25 without: one that is not of the TRAIN:",
                () -> stopAt(stopAt(stopAt(bench(0, 99, 0), 0, 1), 50, 1), 99, 1));
        EDGE.answers(3, "without", 0);
        EDGE.answers(21, "without", 1);
        EDGE.answers(3, "without", 2);
    }

    private static void withoutOfEight() {
        EDGE.says("25 without: one of 8 PIECES:", () -> {
            Lensbench x = bench(0, 99, 0);
            for (int i = 0; i < 8; i++) {
                x.stop(50 + i, 8 - i);
            }
            return x;
        });
        EDGE.answers(1, "many", 6);
        for (int piece = 0; piece < 7; piece++) {
            EDGE.answers(1, "without", piece);
        }
        // At 56 HALF 2 cuts k of 2 (2.24), k of 1 (1.12) comes through.
        EDGE.answers(3, "without", 7);
    }

    private static void nothingIsChanged() {
        EDGE.says("what would be (nothing is changed):", EdgeWouldBeTest::three);
        for (int colour = 0; colour <= 2; colour++) {
            EDGE.onlyAsks("sharp", colour);
            for (int piece = 0; piece <= 2; piece++) {
                EDGE.onlyAsks("best", piece, colour);
            }
        }
        for (int piece = 0; piece <= 2; piece++) {
            EDGE.onlyAsks("without", piece);
        }
        EDGE.onlyAsks("digest");
    }

    // ---- promise 26.

    /** The numbers v in their order; a double is held as 4096.0 times it. */
    private static List<Number> numbers(Lensbench x) {
        List<Number> v = new ArrayList<>();
        add(v, x, "many", 9);
        for (int piece = 0; piece < x.many(0); piece++) {
            add(v, x, "ofPiece", 4, piece);
            add(v, x, "strength", 2, piece);
            v.add(x.through(piece));
            v.add(x.without(piece));
        }
        for (int colour = 0; colour <= 2; colour++) {
            add(v, x, "table", 3, colour);
            add(v, x, "image", 4, colour);
            v.add(4096.0 * x.blur(colour));
        }
        v.add(4096.0 * x.grasp());
        v.add(4096.0 * x.apart());
        v.add(x.sharp(1));
        add(v, x, "ray", 2, 4, 10, 1);
        return v;
    }

    private static void add(List<Number> v, Lensbench x, String call, int last, int... ahead) {
        for (int what = 0; what <= last; what++) {
            int[] with = Arrays.copyOf(ahead, ahead.length + 1);
            with[ahead.length] = what;
            Object told = Edge.answer(x, call, with);
            v.add(told instanceof Double d ? (Number) (4096.0 * d) : (Number) told);
        }
    }

    /** The checksum before it wraps around, exactly. */
    private static BigInteger exactly(List<Number> numbers) {
        BigInteger d = BigInteger.valueOf(58313);
        for (Number v : numbers) {
            BigInteger whole = v instanceof Double real
                    ? new BigDecimal(real).toBigInteger()
                    : BigInteger.valueOf(v.longValue());
            d = d.multiply(BigInteger.valueOf(31)).add(whole);
        }
        return d;
    }

    private static Lensbench full() {
        Lensbench x = bench(3, 95, 7);
        x.lens(90, 20, 12, 2);
        x.stop(80, 9);
        x.lens(2, 3, 50, 1);
        x.lens(30, 18, -11, 2);
        x.lens(10, 17, 7, 1);
        x.stop(99, 1);
        x.lens(50, 16, 9, 0);
        x.lens(11, 15, -1, 2);
        x.rattle();
        return x;
    }

    private static void digestOfBenches() {
        Edge.Bench[] benches = {
            Lensbench::new,
            EdgeWouldBeTest::three,
            EdgeWouldBeTest::full,
            () -> bench(98, 99, 80),
            () -> lensAt(new Lensbench(), 20, 10, 2),
            () -> stopAt(bench(0, 99, 5), 1, 1),
            () -> lensAt(bench(0, 99, 0), 10, 10, 1),
            () -> lensAt(lensAt(bench(0, 60, 1), 40, -50, 2), 20, 50, 2),
            () -> stopAt(stopAt(bench(0, 30, 20), 99, 7), 20, 1)};
        for (int i = 0; i < benches.length; i++) {
            EDGE.says("26 digest of bench " + i + ":", benches[i]);
            EDGE.answers(exactly(numbers(benches[i].made())).longValue(), "digest");
            EDGE.onlyAsks("digest");
        }
    }

    private static void digestWraps() {
        EDGE.says("26 digest: wraps around as a 64-bit integer:", Lensbench::new);
        BigInteger d = exactly(numbers(new Lensbench()));
        EDGE.holds("it is beyond 64 bits", d.bitLength() > 64);
        EDGE.answers(d.longValue(), "digest");
    }

    private static void digestCuts() {
        EDGE.says("26 digest: cut to a whole number towards 0:", EdgeWouldBeTest::three);
        boolean below = false;
        boolean above = false;
        for (Number v : numbers(three())) {
            double part = v.doubleValue() - v.longValue();
            below = below || part < -0.5;
            above = above || part > 0.5;
        }
        EDGE.holds("one below 0 is cut", below);
        EDGE.holds("one above 0 is cut", above);
        EDGE.answers(exactly(numbers(three())).longValue(), "digest");
    }

    /** A D of hardly above 0.000001 throws the image so far away that no int holds 4096.0 times its BACK. */
    private static void digestOfFarImages() {
        Edge.Bench far = () -> lensAt(lensAt(lensAt(new Lensbench(), 1, 37, 0), 31, 2, 2), 52, 1, 0);
        EDGE.says("26 digest: of doubles beyond an int:", far);
        double back = 4096.0 * far.made().image(0, 1);
        EDGE.holds("BACK is so far", Math.abs(back) > Integer.MAX_VALUE);
        EDGE.answers(exactly(numbers(far.made())).longValue(), "digest");
    }

    private static void digestTellsApart() {
        EDGE.says("26 digest: another one, when something stands otherwise:", EdgeWouldBeTest::three);
        long before = three().digest();
        for (int change = 0; change <= 7; change++) {
            Lensbench x = three();
            changed(x, change);
            EDGE.holds("change " + change, x.digest() != before);
        }
    }

    private static void changed(Lensbench x, int which) {
        switch (which) {
            case 0 -> x.move(0, 21);
            case 1 -> x.half(0, 9);
            case 2 -> x.swap(0, 1);
            case 3 -> x.thing(1);
            case 4 -> x.screen(98);
            case 5 -> x.tall(5);
            case 6 -> x.rattle();
            default -> x.take(2);
        }
    }
}
