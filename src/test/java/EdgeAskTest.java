/** Promises 12 to 22, sentence by sentence: the last that is asked for and the first that is not. */
public final class EdgeAskTest {
    private static final Edge EDGE = new Edge("EdgeAskTest");
    private static final int[] NO_PIECE = {Edge.LEAST, -1, 4, 7, 8, Edge.MOST};
    private static final int[] NO_COLOUR = {Edge.LEAST, -1, 3, Edge.MOST};

    public static void main(String[] args) {
        ofPiecePiece();
        ofPieceWhat();
        ofPieceOfAStop();
        ofPieceInTheTrain();
        strengthPiece();
        strengthColour();
        rayHeight();
        raySlope();
        rayColour();
        rayWhat();
        rayIsNotCut();
        tableColour();
        tableWhat();
        imageColour();
        imageWhat();
        imageWithoutOne();
        manyWhat();
        manyPieces();
        manyWithoutTrain();
        manyWithFullTrain();
        throughPiece();
        throughNotOfTheTrain();
        throughAheadOfIt();
        railSigns();
        graspWithoutOne();
        blurColour();
        blurInTheDark();
        apartWithoutAnImage();
        apartOfRedAndBlue();
        askingChangesNothing();
        EDGE.end();
    }

    /** LENSES at 20 and 60, a STOP at 40 and one at the THING: numbers 0, 1, 2 and 3. */
    private static Lensbench four() {
        Lensbench x = new Lensbench();
        x.lens(20, 8, 10, 1);
        x.lens(60, 12, -7, 2);
        x.stop(40, 3);
        x.stop(0, 4);
        return x;
    }

    private static Lensbench one(int place, int half, int power, int glass) {
        Lensbench x = new Lensbench();
        x.lens(place, half, power, glass);
        return x;
    }

    private static Lensbench tallBy(Lensbench x, int quarters) {
        x.tall(quarters);
        return x;
    }

    // ---- promise 12.

    private static void ofPiecePiece() {
        EDGE.says("12 ofPiece: there is no such PIECE:", EdgeAskTest::four);
        EDGE.answers(20, "ofPiece", 0, 0);
        EDGE.answers(0, "ofPiece", 3, 0);
        for (int piece : NO_PIECE) {
            EDGE.out("ofPiece", piece, 0);
            EDGE.out("ofPiece", piece, 4);
        }
    }

    private static void ofPieceWhat() {
        EDGE.says("12 ofPiece: what is not 0 to 4:", EdgeAskTest::four);
        int[] due = {60, 12, -7, 2, 2};
        for (int what = 0; what < due.length; what++) {
            EDGE.answers(due[what], "ofPiece", 1, what);
        }
        for (int what : new int[] {Edge.LEAST, -1, 5, Edge.MOST}) {
            EDGE.wrong("ofPiece", 1, what);
        }
    }

    private static void ofPieceOfAStop() {
        EDGE.says("12 ofPiece: POWER 0 of a STOP, GLASS NONE of a STOP:", EdgeAskTest::four);
        EDGE.answers(0, "ofPiece", 2, 2);
        EDGE.answers(-1, "ofPiece", 2, 3);
        EDGE.answers(0, "ofPiece", 3, 2);
        EDGE.answers(-1, "ofPiece", 3, 3);
        EDGE.answers(1, "ofPiece", 0, 3);
    }

    private static void ofPieceInTheTrain() {
        EDGE.says("12 ofPiece: which one of the TRAIN, from 0 on:", EdgeAskTest::four);
        EDGE.answers(0, "ofPiece", 0, 4);
        EDGE.answers(2, "ofPiece", 1, 4);
        EDGE.answers(1, "ofPiece", 2, 4);
        EDGE.answers(-1, "ofPiece", 3, 4);
        EDGE.says("12 ofPiece: NONE, if it is not of it:", () -> {
            Lensbench x = four();
            x.screen(60);
            x.thing(20);
            return x;
        });
        int[] due = {-1, -1, 0, -1};
        for (int piece = 0; piece < due.length; piece++) {
            EDGE.answers(due[piece], "ofPiece", piece, 4);
        }
    }

    // ---- promise 13.

    private static void strengthPiece() {
        EDGE.says("13 strength: there is no such PIECE:", EdgeAskTest::four);
        EDGE.answers(0.1, "strength", 0, 1);
        EDGE.answers(0.0, "strength", 3, 1);
        for (int piece : NO_PIECE) {
            EDGE.out("strength", piece, 1);
        }
    }

    private static void strengthColour() {
        EDGE.says("13 strength: colour is not 0 to 2:", EdgeAskTest::four);
        EDGE.answers(0.1 * (1.0 - 0.02), "strength", 0, 0);
        EDGE.answers(0.1 * (1.0 + 0.02), "strength", 0, 2);
        for (int colour : NO_COLOUR) {
            EDGE.wrong("strength", 0, colour);
        }
        EDGE.says("13 strength: 0.0 of a STOP, if colour is 0 to 2:", EdgeAskTest::four);
        for (int colour = 0; colour <= 2; colour++) {
            EDGE.answers(0.0, "strength", 2, colour);
        }
        for (int colour : NO_COLOUR) {
            EDGE.wrong("strength", 2, colour);
        }
    }

    // ---- promise 14.

    private static void rayHeight() {
        EDGE.says("14 ray: height is not -80 to 80:", Lensbench::new);
        EDGE.answers(20.0, "ray", 80, 0, 1, 0);
        EDGE.answers(-20.0, "ray", -80, 0, 1, 0);
        EDGE.answers(0.25, "ray", 1, 0, 1, 0);
        for (int height : new int[] {Edge.LEAST, -81, 81, Edge.MOST}) {
            EDGE.wrong("ray", height, 0, 1, 0);
        }
    }

    private static void raySlope() {
        EDGE.says("14 ray: slope is not -100 to 100:", Lensbench::new);
        EDGE.answers(99.0, "ray", 0, 100, 1, 0);
        EDGE.answers(-99.0, "ray", 0, -100, 1, 0);
        EDGE.answers(1.0, "ray", 0, 100, 1, 1);
        EDGE.answers(0.01, "ray", 0, 1, 1, 1);
        for (int slope : new int[] {Edge.LEAST, -101, 101, Edge.MOST}) {
            EDGE.wrong("ray", 0, slope, 1, 0);
        }
    }

    private static void rayColour() {
        EDGE.says("14 ray: colour is not 0 to 2:", () -> one(20, 8, 10, 2));
        EDGE.answers(-(4.0 * (0.1 * (1.0 - 0.05))), "ray", 16, 0, 0, 1);
        EDGE.answers(-(4.0 * 0.1), "ray", 16, 0, 1, 1);
        EDGE.answers(-(4.0 * (0.1 * (1.0 + 0.05))), "ray", 16, 0, 2, 1);
        for (int colour : NO_COLOUR) {
            EDGE.wrong("ray", 16, 0, colour, 0);
        }
    }

    private static void rayWhat() {
        EDGE.says("14 ray: what not 0 to 2:", () -> one(20, 8, 10, 0));
        EDGE.answers(2.0 + -0.2 * 79, "ray", 8, 0, 1, 0);
        EDGE.answers(-0.2, "ray", 8, 0, 1, 1);
        EDGE.answers(-1.0, "ray", 8, 0, 1, 2);
        for (int what : new int[] {Edge.LEAST, -1, 3, Edge.MOST}) {
            EDGE.wrong("ray", 8, 0, 1, what);
        }
    }

    private static void rayIsNotCut() {
        EDGE.says("14 ray: the number of the PIECE at which it is CUT, -1.0 if it is not:", EdgeAskTest::four);
        EDGE.answers(-1.0, "ray", 0, 0, 1, 2);
        EDGE.answers(0.0, "ray", 33, 0, 1, 2);
        EDGE.answers(8.25, "ray", 33, 0, 1, 0);
        EDGE.answers(0.0, "ray", 33, 0, 1, 1);
        EDGE.answers(2.0, "ray", 32, 0, 1, 2);
        EDGE.answers(8.0 + -0.8 * 20, "ray", 32, 0, 1, 0);
        EDGE.answers(-0.8, "ray", 32, 0, 1, 1);
        EDGE.says("14 ray: the STOP at the THING cuts none:", () -> {
            Lensbench x = new Lensbench();
            x.stop(0, 1);
            x.stop(99, 1);
            return x;
        });
        EDGE.answers(-1.0, "ray", 80, 100, 1, 2);
    }

    // ---- promise 15.

    private static void tableColour() {
        EDGE.says("15 table: colour is not 0 to 2:", () -> one(20, 8, 10, 2));
        EDGE.answers(-(0.1 * (1.0 - 0.05)), "table", 0, 2);
        EDGE.answers(-0.1, "table", 1, 2);
        EDGE.answers(-(0.1 * (1.0 + 0.05)), "table", 2, 2);
        for (int colour : NO_COLOUR) {
            EDGE.wrong("table", colour, 0);
        }
    }

    private static void tableWhat() {
        EDGE.says("15 table: what is not 0 to 3:", () -> one(20, 8, 10, 0));
        double[] due = {1.0, 20.0, -0.1, -1.0};
        for (int what = 0; what < due.length; what++) {
            EDGE.answers(due[what], "table", 1, what);
        }
        for (int what : new int[] {Edge.LEAST, -1, 4, Edge.MOST}) {
            EDGE.wrong("table", 1, what);
        }
    }

    // ---- promise 16.

    private static void imageColour() {
        EDGE.says("16 image: colour is not 0 to 2:", () -> one(20, 8, 10, 2));
        EDGE.answers(-(1.0 / -(0.1 * (1.0 - 0.05))), "image", 0, 4);
        EDGE.answers(10.0, "image", 1, 4);
        EDGE.answers(-(1.0 / -(0.1 * (1.0 + 0.05))), "image", 2, 4);
        for (int colour : NO_COLOUR) {
            EDGE.wrong("image", colour, 0);
        }
    }

    private static void imageWhat() {
        EDGE.says("16 image: what is not 0 to 4:", () -> one(20, 8, 10, 0));
        double[] due = {1.0, 20.0, -1.0, 1.0, 10.0};
        for (int what = 0; what < due.length; what++) {
            EDGE.answers(due[what], "image", 1, what);
        }
        for (int what : new int[] {Edge.LEAST, -1, 5, Edge.MOST}) {
            EDGE.wrong("image", 1, what);
        }
    }

    private static void imageWithoutOne() {
        EDGE.says("16 image: 1 to 3: 0.0 without an IMAGE, 4 all the same:", () -> one(10, 8, 10, 0));
        double[] noImage = {0.0, 0.0, 0.0, 0.0, 10.0};
        for (int what = 0; what < noImage.length; what++) {
            EDGE.answers(noImage[what], "image", 1, what);
        }
        EDGE.says("16 image: 4: 0.0 without a FOCUS:", () -> {
            Lensbench x = one(10, 20, 10, 0);
            x.lens(30, 20, 10, 0);
            return x;
        });
        double[] noFocus = {1.0, 10.0, -1.0, 1.0, 0.0};
        for (int what = 0; what < noFocus.length; what++) {
            EDGE.answers(noFocus[what], "image", 1, what);
        }
    }

    // ---- promise 17.

    private static void manyWhat() {
        EDGE.says("17 many: what is not 0 to 9:", EdgeAskTest::four);
        // The STOP at 40 stands in the image of the first LENS: b is 0 there, so that it is left out.
        int[] due = {4, 2, 3, 0, 99, 0, 21, 0, 60, 4};
        for (int what = 0; what < due.length; what++) {
            EDGE.answers(due[what], "many", what);
        }
        for (int what : new int[] {Edge.LEAST, -1, 10, Edge.MOST}) {
            EDGE.wrong("many", what);
        }
    }

    private static void manyPieces() {
        EDGE.says("17 many: 0 PIECES, 1 LENSES:", () -> {
            Lensbench x = new Lensbench();
            x.stop(10, 5);
            x.stop(0, 5);
            x.stop(99, 5);
            return x;
        });
        EDGE.answers(3, "many", 0);
        EDGE.answers(0, "many", 1);
        EDGE.says("17 many: 1 LENSES of either sign, of the TRAIN or not:", () -> {
            Lensbench x = one(0, 5, 1, 0);
            x.lens(50, 5, -1, 0);
            x.lens(99, 5, -50, 2);
            return x;
        });
        EDGE.answers(3, "many", 0);
        EDGE.answers(3, "many", 1);
        EDGE.answers(1, "many", 2);
    }

    private static void manyWithoutTrain() {
        EDGE.says("17 many: 5 NONE, 8 the PLACE of the THING without a TRAIN:", () -> {
            Lensbench x = four();
            x.thing(60);
            x.screen(61);
            x.tall(0);
            return x;
        });
        int[] due = {4, 2, 0, 60, 61, -1, 21, 0, 60, 0};
        for (int what = 0; what < due.length; what++) {
            EDGE.answers(due[what], "many", what);
        }
    }

    private static void manyWithFullTrain() {
        EDGE.says("17 many: of 8 PIECES, all of the TRAIN:", () -> {
            Lensbench x = new Lensbench();
            for (int i = 0; i < 8; i++) {
                x.lens(98 - i, 20, 1, 0);
            }
            x.tall(80);
            x.screen(99);
            x.thing(90);
            return x;
        });
        int[] due = {8, 8, 8, 90, 99, 0, 11, 0, 98, 80};
        for (int what = 0; what < due.length; what++) {
            EDGE.answers(due[what], "many", what);
        }
    }

    // ---- promise 18.

    private static void throughPiece() {
        EDGE.says("18 through: there is no such PIECE:", EdgeAskTest::four);
        EDGE.answers(0, "through", 3);
        for (int piece : NO_PIECE) {
            EDGE.out("through", piece);
        }
    }

    private static void throughNotOfTheTrain() {
        EDGE.says("18 through: 0, if it is not of the TRAIN:", () -> {
            Lensbench x = new Lensbench();
            for (int place : new int[] {29, 30, 31, 69, 70, 71}) {
                x.stop(place, 20);
            }
            x.screen(70);
            x.thing(30);
            return x;
        });
        int[] due = {0, 0, 21, 21, 0, 0};
        for (int piece = 0; piece < due.length; piece++) {
            EDGE.answers(due[piece], "through", piece);
        }
    }

    private static void throughAheadOfIt() {
        EDGE.says("18 through: not CUT there or ahead of it:", () -> {
            Lensbench x = new Lensbench();
            x.stop(50, 1);
            x.stop(51, 20);
            x.stop(10, 1);
            x.stop(9, 20);
            return tallBy(x, 0);
        });
        int[] due = {3, 3, 11, 21};
        for (int piece = 0; piece < due.length; piece++) {
            EDGE.answers(due[piece], "through", piece);
        }
        EDGE.says("18 through: CUT at the last of 8 PIECES:", () -> {
            Lensbench x = new Lensbench();
            for (int place = 43; place <= 49; place++) {
                x.stop(place, 20);
            }
            x.stop(50, 1);
            return tallBy(x, 0);
        });
        EDGE.answers(21, "through", 6);
        EDGE.answers(3, "through", 7);
        EDGE.says("18 through: none of the FAN:", () -> {
            Lensbench x = new Lensbench();
            x.stop(1, 20);
            x.stop(2, 1);
            x.stop(3, 20);
            return tallBy(x, 40);
        });
        EDGE.answers(21, "through", 0);
        EDGE.answers(0, "through", 1);
        EDGE.answers(0, "through", 2);
    }

    // ---- promises 19 to 22.

    private static void railSigns() {
        EDGE.says("19 rail: an empty TRAIN:", () -> {
            Lensbench x = new Lensbench();
            x.stop(0, 1);
            x.lens(99, 1, 50, 0);
            return x;
        });
        EDGE.answers("T#", "rail");
        EDGE.says("19 rail: a POWER above 0, one below 0, a STOP:", () -> {
            Lensbench x = one(10, 5, 1, 0);
            x.lens(11, 5, -1, 1);
            x.stop(12, 5);
            x.lens(13, 5, 50, 2);
            x.lens(14, 5, -50, 0);
            x.lens(98, 5, 2, 0);
            x.lens(1, 5, -2, 0);
            x.stop(15, 5);
            return x;
        });
        EDGE.answers("T)()|()|(#", "rail");
    }

    private static void graspWithoutOne() {
        EDGE.says("20 grasp: 0.0 without an OPENING:", () -> {
            Lensbench x = four();
            x.screen(20);
            return x;
        });
        EDGE.answers(0.0, "grasp");
        EDGE.answers(-1, "many", 5);
        EDGE.says("20 grasp: of the smallest HALF as far away as can be:", () -> {
            Lensbench x = new Lensbench();
            x.stop(98, 1);
            return x;
        });
        EDGE.answers(1 / 98.0, "grasp");
        EDGE.says("20 grasp: of the greatest HALF as near as can be:", () -> {
            Lensbench x = new Lensbench();
            x.stop(1, 20);
            return x;
        });
        EDGE.answers(20.0, "grasp");
    }

    private static void blurColour() {
        EDGE.says("21 blur: colour is not 0 to 2:", () -> {
            Lensbench x = one(10, 20, 10, 2);
            x.screen(30);
            return tallBy(x, 0);
        });
        double h = 0.2 * 10;
        double[] strengths = {0.1 * (1.0 - 0.05), 0.1, 0.1 * (1.0 + 0.05)};
        for (int colour = 0; colour <= 2; colour++) {
            double edge = h + (0.2 - h * strengths[colour]) * 20;
            EDGE.answers(edge + edge, "blur", colour);
        }
        for (int colour : NO_COLOUR) {
            EDGE.wrong("blur", colour);
        }
    }

    private static void blurInTheDark() {
        EDGE.says("21 blur: 0.0, if none of the FAN comes to the SCREEN:", () -> {
            Lensbench x = new Lensbench();
            x.stop(1, 1);
            return tallBy(x, 5);
        });
        for (int colour = 0; colour <= 2; colour++) {
            EDGE.answers(0.0, "blur", colour);
        }
        EDGE.answers(0, "many", 6);
        EDGE.says("21 blur: 0.0 of one RAY, more of two:", () -> {
            Lensbench x = new Lensbench();
            x.stop(20, 1);
            return tallBy(x, 20);
        });
        EDGE.answers(1, "many", 6);
        EDGE.answers(0.0, "blur", 1);
        EDGE.says("21 blur: of two:", () -> {
            Lensbench x = new Lensbench();
            x.stop(23, 1);
            return tallBy(x, 20);
        });
        EDGE.answers(2, "many", 6);
        EDGE.answers((5.0 + -0.18 * 23 + -0.18 * 76) - (5.0 + -0.2 * 23 + -0.2 * 76), "blur", 1);
    }

    private static Lensbench pair(int place, int power, int other) {
        Lensbench x = one(place, 5, power, 2);
        x.lens(place + 25, 5, other, 0);
        return x;
    }

    private static void apartWithoutAnImage() {
        EDGE.says("22 apart: 0.0, if there is no IMAGE in red:", () -> pair(2, 40, 3));
        EDGE.answers(0.0, "image", 0, 0);
        EDGE.answers(1.0, "image", 2, 0);
        EDGE.answers(0.0, "apart");
        EDGE.says("22 apart: 0.0, if there is no IMAGE in blue:", () -> pair(4, 20, 2));
        EDGE.answers(1.0, "image", 0, 0);
        EDGE.answers(0.0, "image", 2, 0);
        EDGE.answers(0.0, "apart");
        EDGE.says("22 apart: 0.0, if there is no IMAGE in both:", () -> one(10, 5, 10, 0));
        EDGE.answers(0.0, "image", 0, 0);
        EDGE.answers(0.0, "image", 2, 0);
        EDGE.answers(0.0, "apart");
        EDGE.says("22 apart: 0.0 without a TRAIN:", Lensbench::new);
        EDGE.answers(0.0, "apart");
    }

    private static void apartOfRedAndBlue() {
        double red = -(10.0 / (1.0 - 10.0 * (0.1 * (1.0 - 0.05))));
        double blue = -(10.0 / (1.0 - 10.0 * (0.1 * (1.0 + 0.05))));
        EDGE.says("22 apart: an IMAGE in red and blue, none in green:", () -> one(10, 5, 10, 2));
        EDGE.answers(0.0, "image", 1, 0);
        EDGE.answers(blue - red, "apart");
        EDGE.says("22 apart: 0.0 of glass without a SPREAD:", () -> one(20, 5, 10, 0));
        EDGE.answers(0.0, "apart");
    }

    private static void askingChangesNothing() {
        EDGE.says("what is asked changes nothing:", EdgeAskTest::four);
        for (int what = 0; what <= 4; what++) {
            EDGE.onlyAsks("ofPiece", 1, what);
            EDGE.onlyAsks("image", 2, what);
            EDGE.onlyAsks("many", 5 + what);
        }
        for (int what = 0; what <= 3; what++) {
            EDGE.onlyAsks("table", 0, what);
        }
        for (int what = 0; what <= 2; what++) {
            EDGE.onlyAsks("ray", 80, 100, 0, what);
            EDGE.onlyAsks("strength", 1, what);
            EDGE.onlyAsks("blur", what);
        }
        EDGE.onlyAsks("through", 2);
        EDGE.onlyAsks("rail");
        EDGE.onlyAsks("grasp");
        EDGE.onlyAsks("apart");
    }
}
