/** "Terms" and the two sentences ahead of promise 1: both sides of each boundary that they name. */
public final class EdgeTermsTest {
    private static final Edge EDGE = new Edge("EdgeTermsTest");
    private static final String OUT = "throws.IndexOutOfBoundsException";
    private static final String WRONG = "throws.IllegalArgumentException";

    public static void main(String[] args) {
        trainIsStrictlyBetween();
        trainIsInOrderAlongTheRail();
        othersDoNotMatter();
        rayOfTheHalf();
        rayHardlyAboveTheHalf();
        rayCutIsNotBent();
        stopBendsNothing();
        spreadByGlass();
        tableWithoutTrain();
        tableEndsBehindTheLastPiece();
        imageThreshold();
        focusThreshold();
        realIsAboveZero();
        imageWithoutTrain();
        largeIsOfTheBack();
        openingIsTheLeast();
        openingIsTheFirstOfSeveral();
        openingIsGreen();
        openingIsAheadOfTheBending();
        openingIsWithoutSign();
        openingLeavesOutTheImage();
        graspWithoutAny();
        fanLeavesTheTop();
        fanHasTwentyOneSlopes();
        lightIsGreen();
        blurIsOfThoseThatCome();
        darkAfterLight();
        screenStaysBehindTheThing();
        firstNamedIsThrown();
        noneIsMinusZero();
        holdsForAllCalls();
        EDGE.end();
    }

    /** Each {distance from the one before, HALF, POWER (0: a STOP), GLASS}. */
    private static Lensbench row(int[]... pieces) {
        Lensbench x = new Lensbench();
        int place = 0;
        for (int[] piece : pieces) {
            place += piece[0];
            if (piece[2] == 0) {
                x.stop(place, piece[1]);
            } else {
                x.lens(place, piece[1], piece[2], piece[3]);
            }
        }
        return x;
    }

    private static int[] lens(int distance, int power, int glass) {
        return new int[] {distance, 20, power, glass};
    }

    private static int[] stop(int distance, int half) {
        return new int[] {distance, half, 0, -1};
    }

    private static Lensbench dot(Lensbench x) {
        x.tall(0);
        return x;
    }

    // ---- the TRAIN.

    private static Lensbench sixAround(int thing, int screen) {
        Lensbench x = new Lensbench();
        x.screen(screen);
        x.thing(thing);
        for (int place : new int[] {29, 30, 31, 69, 70, 71}) {
            x.lens(place, 20, 1, 0);
        }
        return x;
    }

    private static void trainIsStrictlyBetween() {
        EDGE.says("TRAIN: above the PLACE of the THING and below that of the SCREEN:", () -> sixAround(30, 70));
        int[] due = {-1, -1, 0, 1, -1, -1};
        for (int piece = 0; piece < due.length; piece++) {
            EDGE.answers(due[piece], "ofPiece", piece, 4);
            EDGE.answers(due[piece] == -1 ? 0 : 21, "through", piece);
        }
        EDGE.answers(2, "many", 2);
        EDGE.answers(69, "many", 8);
        EDGE.answers("T((#", "rail");
        EDGE.says("TRAIN: one PLACE wider on both sides:", () -> sixAround(29, 71));
        EDGE.answers(4, "many", 2);
        EDGE.answers(70, "many", 8);
        EDGE.says("TRAIN: from end to end of the rail:", () -> {
            Lensbench x = new Lensbench();
            x.stop(98, 4);
            x.stop(99, 3);
            x.stop(1, 2);
            x.stop(0, 1);
            return x;
        });
        EDGE.answers("T||#", "rail");
        EDGE.answers(1, "ofPiece", 0, 4);
        EDGE.answers(-1, "ofPiece", 1, 4);
        EDGE.answers(0, "ofPiece", 2, 4);
        EDGE.answers(-1, "ofPiece", 3, 4);
        EDGE.says("TRAIN: nothing can stand between neighbours:", () -> sixAround(30, 31));
        EDGE.answers(0, "many", 2);
        EDGE.answers(30, "many", 8);
        EDGE.answers("T#", "rail");
    }

    private static void trainIsInOrderAlongTheRail() {
        EDGE.says("TRAIN: in their order along the rail:", () -> {
            Lensbench x = new Lensbench();
            for (int i = 0; i < 8; i++) {
                x.lens(90 - 10 * i, 20, i % 2 == 0 ? 1 : -1, 0);
            }
            return x;
        });
        for (int piece = 0; piece < 8; piece++) {
            EDGE.answers(7 - piece, "ofPiece", piece, 4);
        }
        EDGE.answers("T)()()()(#", "rail");
        EDGE.answers(8, "many", 2);
        EDGE.answers(90, "many", 8);
    }

    private static void othersDoNotMatter() {
        EDGE.says("TRAIN: the others do not matter:", () -> {
            Lensbench x = new Lensbench();
            for (int place : new int[] {0, 5, 10, 60, 61, 99}) {
                x.lens(place, 1, 50, 2);
            }
            x.screen(60);
            x.thing(10);
            return x;
        });
        EDGE.answers(21, "many", 6);
        EDGE.answers(-1, "many", 5);
        EDGE.answers((1.0 + 0.2 * 50) - (1.0 + -0.2 * 50), "blur", 2);
        EDGE.answers(-20.0 + -1.0 * 50, "ray", -80, -100, 0, 0);
        EDGE.answers(-1.0, "ray", -80, -100, 0, 2);
        EDGE.answers(0.0, "grasp");
        EDGE.answers(0.0, "apart");
        double[] table = {1.0, 0.0, 0.0, 1.0};
        for (int what = 0; what < table.length; what++) {
            EDGE.answers(table[what], "table", 2, what);
        }
    }

    // ---- a RAY.

    private static void rayOfTheHalf() {
        for (int half : new int[] {1, 2, 19, 20}) {
            EDGE.says("RAY: h of just HALF " + half + " is not above it:", () -> row(stop(10, half)));
            for (int sign = -1; sign <= 1; sign += 2) {
                EDGE.answers(-1.0, "ray", sign * 4 * half, 0, 1, 2);
                EDGE.answers(sign * (double) half, "ray", sign * 4 * half, 0, 1, 0);
            }
        }
        for (int half : new int[] {1, 2, 19}) {
            EDGE.says("RAY: h a quarter above HALF " + half + " is CUT:", () -> row(stop(10, half)));
            EDGE.answers(0.0, "ray", 4 * half + 1, 0, 1, 2);
            EDGE.answers(0.0, "ray", -4 * half - 1, 0, 1, 2);
        }
        EDGE.says("RAY: h above HALF 20 is CUT:", () -> row(stop(1, 20)));
        EDGE.answers(0.0, "ray", 80, 1, 1, 2);
        EDGE.answers(20.0 + 0.01, "ray", 80, 1, 1, 0);
        EDGE.answers(0.0, "ray", -80, -1, 1, 2);
        EDGE.answers(-20.0 - 0.01, "ray", -80, -1, 1, 0);
    }

    /** 0.14 * 50 and 0.28 * 25 are 7.000000000000001 as doubles, 0.13 * 50 is 6.5 and 0.15 * 50 is 7.5. */
    private static void rayHardlyAboveTheHalf() {
        EDGE.says("RAY: h hardly above HALF is CUT:", () -> row(stop(50, 7)));
        EDGE.answers(0.0, "ray", 0, 14, 1, 2);
        EDGE.answers(7.000000000000001, "ray", 0, 14, 1, 0);
        EDGE.answers(0.0, "ray", 0, -14, 1, 2);
        EDGE.answers(-7.000000000000001, "ray", 0, -14, 1, 0);
        EDGE.answers(-1.0, "ray", 0, 13, 1, 2);
        EDGE.answers(-1.0, "ray", 0, -13, 1, 2);
        EDGE.says("RAY: h hardly above HALF is CUT at a LENS, too:", () -> row(new int[] {25, 7, 10, 0}));
        EDGE.answers(0.0, "ray", 0, 28, 1, 2);
        EDGE.answers(0.28, "ray", 0, 28, 1, 1);
        EDGE.answers(-1.0, "ray", 0, 27, 1, 2);
    }

    private static void rayCutIsNotBent() {
        EDGE.says("RAY: CUT at a LENS, as it came there:", () -> row(stop(5, 20), new int[] {5, 3, 25, 0}, stop(5, 1)));
        EDGE.answers(3.25, "ray", 13, 0, 1, 0);
        EDGE.answers(0.0, "ray", 13, 0, 1, 1);
        EDGE.answers(1.0, "ray", 13, 0, 1, 2);
        EDGE.says("RAY: bent at a LENS, CUT at the next:", () -> row(stop(5, 20), new int[] {5, 3, 25, 0}, stop(6, 1)));
        EDGE.answers(3.0 + -0.75 * 6, "ray", 12, 0, 1, 0);
        EDGE.answers(-0.75, "ray", 12, 0, 1, 1);
        EDGE.answers(2.0, "ray", 12, 0, 1, 2);
    }

    private static void stopBendsNothing() {
        EDGE.says("A STOP bends nothing:", () -> row(stop(10, 20), stop(10, 20)));
        EDGE.answers(0.25, "ray", 8, 25, 2, 1);
        EDGE.answers(2.0 + 0.25 * 10 + 0.25 * 10 + 0.25 * 79, "ray", 8, 25, 2, 0);
        double[] table = {1.0, 20.0, 0.0, 1.0};
        for (int what = 0; what < table.length; what++) {
            EDGE.answers(table[what], "table", 0, what);
        }
        for (int colour = 0; colour <= 2; colour++) {
            EDGE.answers(0.0, "strength", 0, colour);
        }
    }

    private static void spreadByGlass() {
        double[] spreads = {0.0, 0.02, 0.05};
        for (int glass = 0; glass <= 2; glass++) {
            int of = glass;
            EDGE.says("SPREAD of GLASS " + glass + ":", () -> row(lens(5, 50, of), lens(5, -50, of),
                    lens(5, 1, of), lens(5, -1, of), lens(5, 7, of)));
            double[] powers = {50.0, -50.0, 1.0, -1.0, 7.0};
            for (int piece = 0; piece < powers.length; piece++) {
                for (int colour = 0; colour <= 2; colour++) {
                    double due = powers[piece] / 100.0 * (1.0 + (colour - 1) * spreads[glass]);
                    EDGE.answers(due, "strength", piece, colour);
                }
            }
        }
    }

    // ---- the TABLE and the IMAGE.

    private static void tableIs(int colour, double... due) {
        for (int what = 0; what < due.length; what++) {
            EDGE.answers(due[what], "table", colour, what);
        }
    }

    private static void tableWithoutTrain() {
        EDGE.says("TABLE without a TRAIN is as at first:", () -> {
            Lensbench x = row(lens(10, 25, 2), lens(20, -25, 2));
            x.screen(30);
            x.thing(10);
            return x;
        });
        for (int colour = 0; colour <= 2; colour++) {
            tableIs(colour, 1.0, 0.0, 0.0, 1.0);
        }
        EDGE.says("TABLE with one PIECE of the TRAIN:", () -> {
            Lensbench x = row(lens(10, 25, 0), lens(20, -25, 0));
            x.screen(31);
            x.thing(10);
            return x;
        });
        tableIs(1, 1.0, 20.0, 0.25, 1.0 - 20.0 * -0.25);
    }

    private static void tableEndsBehindTheLastPiece() {
        EDGE.says("TABLE ends behind the last PIECE, with its bending:", () -> row(lens(8, 25, 0), lens(4, 50, 0)));
        double a = 1.0 + -0.25 * 4;
        double b = 8.0 + (1.0 - 8.0 * 0.25) * 4;
        tableIs(1, a, b, -0.25 - a * 0.5, (1.0 - 8.0 * 0.25) - b * 0.5);
        EDGE.says("TABLE ends at a STOP, if that is the last:", () -> row(lens(8, 25, 0), stop(4, 1)));
        tableIs(1, a, b, -0.25, 1.0 - 8.0 * 0.25);
    }

    private static void imageIs(int colour, double... due) {
        for (int what = 0; what < due.length; what++) {
            EDGE.answers(due[what], "image", colour, what);
        }
    }

    /** D is 0.000001 in these but for the last digits of the reckoning, or nearly so, with either sign. */
    private static void imageThreshold() {
        isAnImage("above", 0, 0.0000010000001, lens(1, 37, 0), lens(30, 2, 2), lens(21, 1, 0));
        isAnImage("above, negative", 2, 0.0000010162, lens(6, 32, 2), lens(4, -2, 2), lens(3, 3, 1), lens(18, 5, 2));
        isNoImage("below", 2, 0.0000009999999, lens(2, 27, 2), lens(43, 2, 2));
        isNoImage("below, negative", 1, 0.0000009999999, lens(7, 29, 2), lens(4, -29, 2), lens(5, 3, 0),
                lens(5, -39, 1));
    }

    private static void isAnImage(String where, int colour, double most, int[]... pieces) {
        EDGE.says("IMAGE: D without its sign hardly " + where + " 0.000001:", () -> row(pieces));
        double a = row(pieces).table(colour, 0);
        double b = row(pieces).table(colour, 1);
        double c = row(pieces).table(colour, 2);
        double d = row(pieces).table(colour, 3);
        EDGE.holds("D is so", Math.abs(d) >= 0.000001 && Math.abs(d) < most);
        double back = -(b / d);
        imageIs(colour, 1.0, back, a + c * back, back > 0.0 ? 1.0 : 0.0, -(1.0 / c));
    }

    private static void isNoImage(String where, int colour, double least, int[]... pieces) {
        EDGE.says("IMAGE: D without its sign hardly " + where + " 0.000001:", () -> row(pieces));
        double d = row(pieces).table(colour, 3);
        EDGE.holds("D is so", Math.abs(d) < 0.000001 && Math.abs(d) > least);
        imageIs(colour, 0.0, 0.0, 0.0, 0.0, -(1.0 / row(pieces).table(colour, 2)));
    }

    private static void focusThreshold() {
        isFocus("above", 0, lens(4, 5, 1), lens(19, 29, 0), lens(11, 10, 0));
        isFocus("above, negative", 2, lens(12, 13, 2), lens(20, -2, 0), lens(1, 9, 0));
        isNoFocus("below", 2, lens(10, 5, 0), lens(25, 21, 0), lens(2, -1, 1));
        isNoFocus("below, negative", 1, lens(2, 5, 1), lens(19, 10, 1), lens(1, -2, 1), lens(9, 11, 2));
    }

    private static void isFocus(String where, int colour, int[]... pieces) {
        EDGE.says("FOCUS: C without its sign hardly " + where + " 0.000001:", () -> row(pieces));
        double c = row(pieces).table(colour, 2);
        EDGE.holds("C is so", Math.abs(c) >= 0.000001 && Math.abs(c) < 0.0000010000001);
        EDGE.answers(-(1.0 / c), "image", colour, 4);
    }

    private static void isNoFocus(String where, int colour, int[]... pieces) {
        EDGE.says("FOCUS: C without its sign hardly " + where + " 0.000001:", () -> row(pieces));
        double c = row(pieces).table(colour, 2);
        EDGE.holds("C is so", Math.abs(c) < 0.000001 && Math.abs(c) > 0.0000009999999);
        EDGE.answers(0.0, "image", colour, 4);
        EDGE.answers(1.0, "image", colour, 0);
    }

    private static void realIsAboveZero() {
        EDGE.says("REAL: a BACK of hardly above 0.0:", () -> row(lens(10, 19, 0), lens(10, 10, 0), lens(1, -23, 0)));
        EDGE.answers(1.1102230246251568E-16, "image", 2, 1);
        EDGE.answers(1.0, "image", 2, 3);
        EDGE.says("VIRTUAL: a BACK of hardly below 0.0:", () -> row(lens(10, 16, 0), lens(10, 35, 0), lens(2, 47, 2)));
        EDGE.answers(-2.2204460492503136E-16, "image", 1, 1);
        EDGE.answers(0.0, "image", 1, 3);
        EDGE.says("VIRTUAL: a BACK of 0.0:", () -> row(lens(10, 20, 0), lens(10, 5, 2)));
        imageIs(1, 1.0, 0.0, 1.0 + -0.2 * 10, 0.0, -(1.0 / (-0.2 - (1.0 + -0.2 * 10) * 0.05)));
    }

    private static void imageWithoutTrain() {
        EDGE.says("IMAGE behind the THING without a TRAIN:", () -> {
            Lensbench x = row(lens(10, 20, 2));
            x.screen(10);
            return x;
        });
        for (int colour = 0; colour <= 2; colour++) {
            imageIs(colour, 1.0, 0.0, 1.0, 0.0, 0.0);
        }
    }

    private static void largeIsOfTheBack() {
        EDGE.says("LARGE: A + C * BACK, FOCUS whether there is an IMAGE or not:", () -> row(lens(20, 10, 0)));
        imageIs(1, 1.0, 20.0, 1.0 + -0.1 * 20.0, 1.0, 10.0);
        EDGE.says("FOCUS without an IMAGE:", () -> row(lens(10, 10, 0)));
        imageIs(1, 0.0, 0.0, 0.0, 0.0, 10.0);
        EDGE.says("IMAGE without a FOCUS:", () -> row(lens(10, 10, 0), lens(20, 10, 0)));
        imageIs(1, 1.0, 10.0, -1.0, 1.0, 0.0);
        EDGE.says("FOCUS of a LENS that spreads:", () -> row(lens(10, -10, 0)));
        imageIs(1, 1.0, -5.0, 1.0 + 0.1 * -5.0, 0.0, -10.0);
    }

    // ---- the OPENING.

    private static void openingIs(int piece, double grasp) {
        EDGE.answers(piece, "many", 5);
        EDGE.answers(grasp, "grasp");
    }

    private static void openingIsTheLeast() {
        EDGE.says("OPENING: where (HALF / b) is least, the first:", () -> row(stop(20, 4), stop(1, 5), stop(9, 7)));
        openingIs(0, 4 / 20.0);
        EDGE.says("OPENING: where (HALF / b) is least, the middle one:", () -> row(stop(20, 4), stop(6, 5), stop(4, 7)));
        openingIs(1, 5 / 26.0);
        EDGE.says("OPENING: where (HALF / b) is least, the last:", () -> row(stop(20, 4), stop(4, 5), stop(12, 7)));
        openingIs(2, 7 / 36.0);
        EDGE.says("OPENING: only of the TRAIN:", () -> {
            Lensbench x = row(stop(10, 1), stop(10, 9), stop(10, 1));
            x.screen(30);
            x.thing(10);
            return x;
        });
        openingIs(1, 9 / 10.0);
    }

    private static void openingIsTheFirstOfSeveral() {
        EDGE.says("OPENING: of several the first one along the rail:", () -> {
            Lensbench x = new Lensbench();
            x.stop(30, 15);
            x.stop(20, 10);
            x.stop(10, 5);
            return x;
        });
        openingIs(2, 0.5);
        EDGE.says("OPENING: of several the first one, one is less:", () -> row(stop(10, 6), stop(10, 10), stop(10, 15)));
        openingIs(1, 0.5);
    }

    private static void openingIsGreen() {
        // B at the STOP is 10 in green, 10.5 in red, 9.5 in blue.
        EDGE.says("OPENING: in GREEN, not in red:", () -> row(new int[] {10, 10, 10, 2}, stop(20, 10)));
        openingIs(0, 1.0);
        EDGE.says("OPENING: in GREEN, not in blue:", () -> row(new int[] {10, 11, 10, 2}, stop(20, 11)));
        openingIs(0, 1.1);
        EDGE.says("OPENING: in GREEN:", () -> row(new int[] {10, 11, 10, 2}, stop(20, 10)));
        openingIs(1, 1.0);
    }

    private static void openingIsAheadOfTheBending() {
        EDGE.says("OPENING: b as one comes to it:", () -> row(new int[] {20, 5, 10, 0}));
        openingIs(0, 5 / 20.0);
        // Behind the lens B falls from 20 to 10 at the stop, so that the lens is the narrower one.
        EDGE.says("OPENING: b ahead of the bending:", () -> row(new int[] {20, 5, 10, 0}, stop(10, 4)));
        openingIs(0, 5 / 20.0);
    }

    private static void openingIsWithoutSign() {
        EDGE.says("OPENING: b without its sign:", () -> row(new int[] {20, 5, 10, 0}, stop(40, 4)));
        openingIs(1, 4 / 20.0);
    }

    private static void openingLeavesOutTheImage() {
        EDGE.says("OPENING: a b of 0.0 is left out:", () -> row(lens(20, 10, 0), stop(20, 1)));
        openingIs(0, 1.0);
        EDGE.says("OPENING: one PLACE behind, b is 1:", () -> row(lens(20, 10, 0), stop(21, 1), stop(1, 1)));
        openingIs(2, 1 / 2.0);
    }

    private static void graspWithoutAny() {
        EDGE.says("GRASP: 0.0 without such a one:", () -> {
            Lensbench x = row(stop(10, 1), stop(10, 1));
            x.screen(20);
            x.thing(10);
            return x;
        });
        openingIs(-1, 0.0);
    }

    // ---- the FAN.

    private static void fanLeavesTheTop() {
        EDGE.says("FAN: h is TALL / 4.0:", () -> row(stop(1, 1)));
        EDGE.answers(11, "many", 6);
        for (int[] due : new int[][] {{0, 21}, {1, 21}, {3, 21}, {4, 11}, {5, 0}, {80, 0}}) {
            EDGE.says("FAN of the THING of " + due[0] + " quarters:", () -> {
                Lensbench x = row(stop(1, 1));
                x.tall(due[0]);
                return x;
            });
            EDGE.answers(due[1], "many", 6);
            EDGE.answers(due[1], "through", 0);
        }
        EDGE.says("FAN of the tallest THING, a PIECE of HALF 20:", () -> {
            Lensbench x = row(stop(1, 20));
            x.tall(80);
            return x;
        });
        EDGE.answers(11, "many", 6);
        EDGE.answers((20.0 + 0.0 * 1) - (20.0 + -0.2 * 1 + -0.2 * 98), "blur", 1);
    }

    private static void fanHasTwentyOneSlopes() {
        // At the 50th PLACE h is k, hardly more than that for 7 (0.14 * 50), so that HALF 7 cuts there.
        int[] due = {3, 5, 7, 9, 11, 13, 13, 17, 19, 21, 21};
        for (int half = 1; half <= due.length; half++) {
            int of = half;
            EDGE.says("FAN: slopes k / 50.0 through HALF " + half + ":", () -> dot(row(stop(50, of))));
            EDGE.answers(due[half - 1], "many", 6);
            EDGE.answers(due[half - 1], "through", 0);
        }
        EDGE.says("FAN: k of -10 to 10:", () -> dot(new Lensbench()));
        EDGE.answers(21, "many", 6);
        EDGE.answers(0.2 * 99 + 0.2 * 99, "blur", 1);
        EDGE.says("FAN: k of -10 alone:", () -> {
            Lensbench x = row(stop(20, 1));
            x.tall(20);
            return x;
        });
        EDGE.answers(1, "many", 6);
        EDGE.answers(0.0, "blur", 1);
        EDGE.says("FAN: not even k of -10:", () -> {
            Lensbench x = row(stop(19, 1));
            x.tall(20);
            return x;
        });
        EDGE.answers(0, "many", 6);
        EDGE.answers(0.0, "blur", 1);
    }

    /** In red 13 of the FAN would come through the STOP, in blue 17. */
    private static void lightIsGreen() {
        EDGE.says("LIGHT: how many of the FAN in GREEN:", () -> dot(row(lens(9, 10, 2), stop(40, 2), stop(11, 20))));
        EDGE.answers(15, "many", 6);
        EDGE.answers(21, "through", 0);
        EDGE.answers(15, "through", 1);
        EDGE.answers(15, "through", 2);
        EDGE.answers(15, "without", 2);
    }

    private static void blurIsOfThoseThatCome() {
        EDGE.says("BLUR: over those that come to the SCREEN:", () -> dot(row(stop(25, 1))));
        EDGE.answers((0.04 * 25 + 0.04 * 74) * 2, "blur", 1);
        EDGE.says("BLUR: of those all above the axis:", () -> {
            Lensbench x = row(stop(10, 20));
            x.screen(11);
            x.tall(78);
            return x;
        });
        EDGE.answers((19.5 + 0.04 * 10 + 0.04) - (19.5 + -0.2 * 10 + -0.2), "blur", 1);
        EDGE.says("BLUR: one RAY alone:", () -> dot(row(stop(51, 1))));
        EDGE.answers(1, "many", 6);
        EDGE.answers(0.0, "blur", 1);
        EDGE.says("BLUR: of a FAN that begins at the PIECE that is the last PLACE:", () -> dot(row(stop(98, 2))));
        EDGE.answers((0.02 * 98 + 0.02) * 2, "blur", 1);
    }

    /** What was asked while there was a FAN and a TRAIN is not told again when there is none. */
    private static void darkAfterLight() {
        EDGE.says("BLUR: 0.0 without any, though there was one before:", Lensbench::new);
        Lensbench x = row(stop(25, 1));
        x.tall(0);
        EDGE.shows(x, (0.04 * 25 + 0.04 * 74) * 2, "blur", 1);
        EDGE.shows(x, 5, "through", 0);
        EDGE.shows(x, 26, "sharp", 1);
        EDGE.shows(x, 51, "best", 0, 1);
        x.tall(80);
        x.move(0, 1);
        EDGE.shows(x, 0.0, "blur", 1);
        EDGE.shows(x, 0, "through", 0);
        EDGE.shows(x, 0, "many", 6);
        EDGE.shows(x, -1, "sharp", 1);
        x.screen(2);
        EDGE.shows(x, -1, "best", 0, 1);
        EDGE.says("GRASP: 0.0 without such a one, though there was one before:", Lensbench::new);
        EDGE.shows(x, 1.0, "grasp");
        EDGE.shows(x, 0, "many", 5);
        x.screen(1);
        EDGE.shows(x, 0.0, "grasp");
        EDGE.shows(x, -1, "many", 5);
    }

    // ---- what binds every call.

    private static void screenStaysBehindTheThing() {
        EDGE.says("The SCREEN is always behind the THING:", () -> {
            Lensbench x = new Lensbench();
            x.screen(51);
            x.thing(50);
            return x;
        });
        EDGE.state("thing", 51);
        EDGE.state("screen", 50);
        EDGE.answers(50, "thing", 50);
        EDGE.answers(51, "screen", 51);
        EDGE.answers(50, "thing", 49);
        EDGE.answers(51, "screen", 52);
    }

    private static Lensbench eight() {
        return row(stop(10, 5), stop(10, 5), stop(10, 5), stop(10, 5), stop(10, 5), stop(10, 5), stop(10, 5),
                stop(10, 5));
    }

    private static void firstNamedIsThrown() {
        EDGE.says("the one that is named first is thrown, of 8 PIECES:", EdgeTermsTest::eight);
        EDGE.out("lens", -1, 0, 0, 3);
        EDGE.out("lens", 100, 5, 5, 0);
        EDGE.out("lens", 100, 21, 5, 0);
        EDGE.wrong("lens", 10, 0, 5, 0);
        EDGE.wrong("lens", 10, 5, 0, 0);
        EDGE.wrong("lens", 11, 5, 51, 0);
        EDGE.wrong("lens", 11, 5, 5, 3);
        EDGE.out("stop", -1, 0);
        EDGE.out("stop", 100, 5);
        EDGE.wrong("stop", 10, 21);
        EDGE.wrong("stop", 11, 0);
        EDGE.out("move", 8, 20);
        EDGE.out("move", -1, 20);
        EDGE.out("half", 8, 0);
        EDGE.out("half", -1, 21);
        EDGE.out("ofPiece", 8, 5);
        EDGE.out("ofPiece", -1, -1);
        EDGE.out("strength", 8, 3);
        EDGE.out("strength", -1, -1);
        EDGE.out("best", 8, 3);
        EDGE.out("best", -1, -1);
        EDGE.says("the one that is named first is thrown, at a PLACE that is taken:", () -> row(stop(10, 5)));
        EDGE.wrong("lens", 10, 5, 5, -1);
        EDGE.wrong("stop", 10, 0);
        EDGE.says("the one that is named first is thrown, of the SCREEN and the THING:", Lensbench::new);
        EDGE.out("thing", 100);
        EDGE.out("screen", -1);
    }

    private static void noneIsMinusZero() {
        // A B of 0.0 and a D above 0.0: -(B / D) is -0.0.
        Edge.Bench[] benches = {
            Lensbench::new,
            () -> dot(row(stop(50, 1))),
            () -> row(lens(10, 20, 0), lens(5, -40, 0), lens(10, 1, 0)),
            () -> row(lens(10, 20, 0), lens(20, 20, 0), stop(10, 3)),
            () -> row(lens(10, 10, 0), lens(10, 10, 0), lens(10, -10, 0))};
        for (int i = 0; i < benches.length; i++) {
            EDGE.says("None of all doubles that are told is -0.0, bench " + i + ":", benches[i]);
            for (int colour = 0; colour <= 2; colour++) {
                noneOf(benches[i], colour);
            }
        }
        EDGE.says("BACK is 0.0, though the reckoning has -0.0:", () -> row(lens(10, 20, 0), lens(20, 20, 0),
                stop(10, 3)));
        EDGE.answers(0.0, "table", 1, 1);
        EDGE.answers(1.0, "table", 1, 3);
        EDGE.answers(0.0, "image", 1, 1);
        EDGE.says("BACK is 0.0, without a TRAIN:", Lensbench::new);
        EDGE.answers(0.0, "image", 1, 1);
    }

    private static void noneOf(Edge.Bench bench, int colour) {
        Lensbench x = bench.made();
        for (int what = 0; what <= 4; what++) {
            isPlain("image", x.image(colour, what));
        }
        for (int what = 0; what <= 3; what++) {
            isPlain("table", x.table(colour, what));
        }
        for (int what = 0; what <= 2; what++) {
            isPlain("ray", x.ray(0, 0, colour, what));
            isPlain("ray", x.ray(-4, 10, colour, what));
            isPlain("ray", x.ray(4, -10, colour, what));
        }
        for (int piece = 0; piece < x.many(0); piece++) {
            isPlain("strength", x.strength(piece, colour));
        }
        isPlain("blur", x.blur(colour));
        isPlain("grasp", x.grasp());
        isPlain("apart", x.apart());
    }

    private static void isPlain(String call, double told) {
        EDGE.holds(call, Double.doubleToRawLongBits(told) != Double.doubleToRawLongBits(-0.0));
    }

    /** 511 calls, and the 512th answers as on a bench that has had those alone that count. */
    private static void holdsForAllCalls() {
        EDGE.says("at most 512 calls:", Lensbench::new);
        Lensbench x = new Lensbench();
        for (int round = 0; round < 72; round++) {
            EDGE.shows(x, 0, "lens", 50, 5, 5, 1);
            EDGE.shows(x, 50, "move", 0, 51 + round % 40);
            EDGE.shows(x, OUT, "move", 1, 50);
            EDGE.shows(x, WRONG, "half", 0, 21);
            EDGE.shows(x, "T(#", "rail");
            EDGE.shows(x, round + 1, "rattle");
            EDGE.shows(x, 51 + round % 40, "take", 0);
        }
        Lensbench due = new Lensbench();
        for (int i = 0; i < 72; i++) {
            due.rattle();
        }
        for (Lensbench each : new Lensbench[] {x, due}) {
            each.lens(20, 8, 8, 1);
            each.lens(45, 10, -4, 2);
            each.stop(30, 3);
            each.screen(90);
            each.thing(3);
            each.tall(9);
            each.swap(0, 1);
        }
        EDGE.shows(x, due.digest(), "digest");
    }
}
