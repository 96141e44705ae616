/** Promises 1 to 11, sentence by sentence: the last that is taken and the first that is not. */
public final class EdgeStandTest {
    private static final Edge EDGE = new Edge("EdgeStandTest");
    private static final int LEAST = Edge.LEAST;
    private static final int MOST = Edge.MOST;

    public static void main(String[] args) {
        newObjectStands();
        newObjectAsked();
        newObjectHasNoPiece();
        newObjectsShareNothing();
        lensNumber();
        lensPlace();
        lensHalf();
        lensPower();
        lensGlass();
        lensEightPieces();
        lensPlaceTaken();
        stopNumber();
        stopPlace();
        stopHalf();
        stopEightPieces();
        stopPlaceTaken();
        takePiece();
        takeNumbers();
        takeFromEight();
        takeTellsPlace();
        movePiece();
        movePlace();
        moveToAnother();
        moveTellsBefore();
        halfPiece();
        halfEnds();
        halfTellsBefore();
        swapPieces();
        swapTells();
        thingPlace();
        thingAheadOfScreen();
        thingTellsBefore();
        screenPlace();
        screenBehindThing();
        screenTellsBefore();
        tallEnds();
        tallTellsBefore();
        rattleCounts();
        EDGE.end();
    }

    private static Lensbench three() {
        Lensbench x = new Lensbench();
        x.lens(20, 8, 10, 1);
        x.lens(60, 12, -7, 2);
        x.stop(40, 3);
        return x;
    }

    private static Lensbench pieces(int count) {
        Lensbench x = new Lensbench();
        for (int i = 0; i < count; i++) {
            if (i % 2 == 0) {
                x.lens(10 + 10 * i, 5 + i, i - 20, i % 3);
            } else {
                x.stop(10 + 10 * i, 5 + i);
            }
        }
        return x;
    }

    private static Lensbench ends() {
        Lensbench x = new Lensbench();
        x.stop(0, 5);
        x.lens(99, 6, 7, 1);
        return x;
    }

    private static Lensbench between(int thing, int screen) {
        Lensbench x = three();
        x.screen(screen);
        x.thing(thing);
        return x;
    }

    // ---- promise 1.

    private static void newObjectStands() {
        EDGE.says("1 Creates an empty bench:", Lensbench::new);
        int[] due = {0, 0, 0, 0, 99, -1, 21, 0, 0, 4};
        for (int what = 0; what < due.length; what++) {
            EDGE.answers(due[what], "many", what);
        }
        EDGE.answers("T#", "rail");
    }

    private static void newObjectAsked() {
        EDGE.says("1 what an empty bench answers:", Lensbench::new);
        double[] table = {1.0, 0.0, 0.0, 1.0};
        double[] image = {1.0, 0.0, 1.0, 0.0, 0.0};
        for (int colour = 0; colour <= 2; colour++) {
            for (int what = 0; what < table.length; what++) {
                EDGE.answers(table[what], "table", colour, what);
            }
            for (int what = 0; what < image.length; what++) {
                EDGE.answers(image[what], "image", colour, what);
            }
            EDGE.answers((1.0 + 0.2 * 99) - (1.0 + -0.2 * 99), "blur", colour);
            EDGE.answers(1, "sharp", colour);
        }
        EDGE.answers(0.0, "grasp");
        EDGE.answers(0.0, "apart");
    }

    private static void newObjectHasNoPiece() {
        EDGE.says("1 an empty bench has no PIECE:", Lensbench::new);
        for (int piece : new int[] {LEAST, -1, 0, 1, 7, 8, MOST}) {
            EDGE.out("take", piece);
            EDGE.out("move", piece, 50);
            EDGE.out("half", piece, 5);
            EDGE.out("swap", piece, piece);
            EDGE.out("ofPiece", piece, 0);
            EDGE.out("strength", piece, 0);
            EDGE.out("through", piece);
            EDGE.out("best", piece, 0);
            EDGE.out("without", piece);
        }
    }

    private static void newObjectsShareNothing() {
        EDGE.says("1 each bench is its own:", Lensbench::new);
        Lensbench one = new Lensbench();
        Lensbench other = new Lensbench();
        one.lens(20, 8, 10, 1);
        one.screen(90);
        one.thing(5);
        one.tall(9);
        one.rattle();
        EDGE.holds("the other one stands", Edge.standing(other).equals(Edge.standing(new Lensbench())));
    }

    // ---- promise 2.

    private static void lensNumber() {
        EDGE.says("2 lens returns its number:", Lensbench::new);
        Lensbench x = EDGE.answers(0, "lens", 50, 7, 9, 1);
        EDGE.piece(x, 0, 50, 7, 9, 1);
        EDGE.shows(x, 1, "lens", 30, 8, -9, 2);
        EDGE.shows(x, 2, "stop", 40, 3);
        EDGE.shows(x, 3, "lens", 20, 9, 4, 0);
        EDGE.piece(x, 1, 30, 8, -9, 2);
        EDGE.piece(x, 3, 20, 9, 4, 0);
    }

    private static void lensPlace() {
        EDGE.says("2 lens: place is not 0 to 99:", EdgeStandTest::three);
        EDGE.piece(EDGE.answers(3, "lens", 0, 5, 5, 0), 3, 0, 5, 5, 0);
        EDGE.piece(EDGE.answers(3, "lens", 99, 5, 5, 0), 3, 99, 5, 5, 0);
        for (int place : new int[] {LEAST, -1, 100, MOST}) {
            EDGE.out("lens", place, 5, 5, 0);
        }
    }

    private static void lensHalf() {
        EDGE.says("2 lens: half is not 1 to 20:", EdgeStandTest::three);
        EDGE.piece(EDGE.answers(3, "lens", 5, 1, 5, 0), 3, 5, 1, 5, 0);
        EDGE.piece(EDGE.answers(3, "lens", 5, 20, 5, 0), 3, 5, 20, 5, 0);
        for (int half : new int[] {LEAST, -1, 0, 21, MOST}) {
            EDGE.wrong("lens", 5, half, 5, 0);
        }
    }

    private static void lensPower() {
        EDGE.says("2 lens: power is 0 or not -50 to 50:", EdgeStandTest::three);
        for (int power : new int[] {-50, -1, 1, 50}) {
            EDGE.piece(EDGE.answers(3, "lens", 5, 5, power, 0), 3, 5, 5, power, 0);
        }
        for (int power : new int[] {LEAST, -51, 0, 51, MOST}) {
            EDGE.wrong("lens", 5, 5, power, 0);
        }
    }

    private static void lensGlass() {
        EDGE.says("2 lens: glass not 0 to 2:", EdgeStandTest::three);
        for (int glass = 0; glass <= 2; glass++) {
            EDGE.piece(EDGE.answers(3, "lens", 5, 5, 5, glass), 3, 5, 5, 5, glass);
        }
        for (int glass : new int[] {LEAST, -1, 3, MOST}) {
            EDGE.wrong("lens", 5, 5, 5, glass);
        }
    }

    private static void lensEightPieces() {
        EDGE.says("2 lens: there are 8 PIECES:", () -> pieces(7));
        Lensbench eight = EDGE.answers(7, "lens", 5, 5, 5, 0);
        EDGE.shows(eight, 8, "many", 0);
        EDGE.shows(eight, "throws.IllegalStateException", "lens", 6, 5, 5, 0);
        EDGE.shows(eight, 10, "take", 0);
        EDGE.shows(eight, 7, "lens", 6, 5, 5, 0);
        EDGE.shows(eight, "throws.IllegalStateException", "lens", 7, 5, 5, 0);
        EDGE.says("2 lens: there are 8 PIECES:", () -> pieces(8));
        EDGE.state("lens", 5, 5, 5, 0);
        EDGE.state("lens", 10, 5, 5, 0);
    }

    private static void lensPlaceTaken() {
        EDGE.says("2 lens: there is one at that PLACE:", EdgeStandTest::three);
        for (int place : new int[] {20, 40, 60}) {
            EDGE.state("lens", place, 5, 5, 0);
            EDGE.answers(3, "lens", place - 1, 5, 5, 0);
            EDGE.answers(3, "lens", place + 1, 5, 5, 0);
        }
        EDGE.says("2 lens: one at that PLACE, though not of the TRAIN:", EdgeStandTest::ends);
        EDGE.state("lens", 0, 5, 5, 0);
        EDGE.state("lens", 99, 5, 5, 0);
        EDGE.says("2 lens: that PLACE is free again:", () -> {
            Lensbench x = three();
            x.take(2);
            x.move(0, 21);
            return x;
        });
        EDGE.answers(2, "lens", 40, 5, 5, 0);
        EDGE.answers(2, "lens", 20, 5, 5, 0);
        EDGE.state("lens", 21, 5, 5, 0);
    }

    // ---- promise 3.

    private static void stopNumber() {
        EDGE.says("3 stop returns its number:", Lensbench::new);
        Lensbench x = EDGE.answers(0, "stop", 50, 7);
        EDGE.piece(x, 0, 50, 7, 0, -1);
        EDGE.shows(x, 1, "stop", 30, 8);
        EDGE.shows(x, 2, "lens", 40, 3, 1, 0);
        EDGE.shows(x, 3, "stop", 20, 9);
        EDGE.piece(x, 1, 30, 8, 0, -1);
        EDGE.piece(x, 3, 20, 9, 0, -1);
    }

    private static void stopPlace() {
        EDGE.says("3 stop: place is not 0 to 99:", EdgeStandTest::three);
        EDGE.piece(EDGE.answers(3, "stop", 0, 5), 3, 0, 5, 0, -1);
        EDGE.piece(EDGE.answers(3, "stop", 99, 5), 3, 99, 5, 0, -1);
        for (int place : new int[] {LEAST, -1, 100, MOST}) {
            EDGE.out("stop", place, 5);
        }
    }

    private static void stopHalf() {
        EDGE.says("3 stop: half is not 1 to 20:", EdgeStandTest::three);
        EDGE.piece(EDGE.answers(3, "stop", 5, 1), 3, 5, 1, 0, -1);
        EDGE.piece(EDGE.answers(3, "stop", 5, 20), 3, 5, 20, 0, -1);
        for (int half : new int[] {LEAST, -1, 0, 21, MOST}) {
            EDGE.wrong("stop", 5, half);
        }
    }

    private static void stopEightPieces() {
        EDGE.says("3 stop: there are 8 PIECES:", () -> pieces(7));
        Lensbench eight = EDGE.answers(7, "stop", 5, 5);
        EDGE.shows(eight, 8, "many", 0);
        EDGE.shows(eight, "throws.IllegalStateException", "stop", 6, 5);
        EDGE.shows(eight, 5, "take", 7);
        EDGE.shows(eight, 7, "stop", 5, 5);
        EDGE.shows(eight, "throws.IllegalStateException", "stop", 7, 5);
        EDGE.says("3 stop: there are 8 PIECES:", () -> pieces(8));
        EDGE.state("stop", 5, 5);
        EDGE.state("stop", 80, 5);
    }

    private static void stopPlaceTaken() {
        EDGE.says("3 stop: there is one at that PLACE:", EdgeStandTest::three);
        for (int place : new int[] {20, 40, 60}) {
            EDGE.state("stop", place, 5);
            EDGE.answers(3, "stop", place - 1, 5);
            EDGE.answers(3, "stop", place + 1, 5);
        }
        EDGE.says("3 stop: one at that PLACE, though not of the TRAIN:", EdgeStandTest::ends);
        EDGE.state("stop", 0, 5);
        EDGE.state("stop", 99, 5);
    }

    // ---- promise 4.

    private static void takePiece() {
        EDGE.says("4 take: there is no such PIECE:", EdgeStandTest::three);
        EDGE.answers(20, "take", 0);
        EDGE.answers(40, "take", 2);
        for (int piece : new int[] {LEAST, -1, 3, 7, 8, MOST}) {
            EDGE.out("take", piece);
        }
        EDGE.says("4 take: there is no such PIECE of eight:", () -> pieces(8));
        EDGE.answers(80, "take", 7);
        EDGE.out("take", 8);
        EDGE.says("4 take: there is no such PIECE any more:", () -> {
            Lensbench x = three();
            x.take(0);
            x.take(0);
            x.take(0);
            return x;
        });
        EDGE.out("take", 0);
        EDGE.answers(0, "lens", 20, 5, 5, 0);
    }

    private static void takeNumbers() {
        EDGE.says("4 take: those with greater numbers have one less then:", EdgeStandTest::three);
        Lensbench first = EDGE.answers(20, "take", 0);
        EDGE.piece(first, 0, 60, 12, -7, 2);
        EDGE.piece(first, 1, 40, 3, 0, -1);
        EDGE.shows(first, "T|)#", "rail");
        Lensbench middle = EDGE.answers(60, "take", 1);
        EDGE.piece(middle, 0, 20, 8, 10, 1);
        EDGE.piece(middle, 1, 40, 3, 0, -1);
        EDGE.shows(middle, "T(|#", "rail");
        Lensbench last = EDGE.answers(40, "take", 2);
        EDGE.piece(last, 0, 20, 8, 10, 1);
        EDGE.piece(last, 1, 60, 12, -7, 2);
        EDGE.shows(last, "T()#", "rail");
        for (Lensbench x : new Lensbench[] {first, middle, last}) {
            EDGE.shows(x, 2, "many", 0);
            EDGE.shows(x, "throws.IndexOutOfBoundsException", "ofPiece", 2, 0);
            EDGE.shows(x, 2, "stop", 50, 4);
        }
    }

    private static void takeFromEight() {
        EDGE.says("4 take: those with greater numbers of eight:", () -> pieces(8));
        for (int taken = 0; taken < 8; taken++) {
            Lensbench x = EDGE.answers(10 + 10 * taken, "take", taken);
            for (int piece = 0; piece < 7; piece++) {
                int was = piece < taken ? piece : piece + 1;
                boolean isLens = was % 2 == 0;
                EDGE.piece(x, piece, 10 + 10 * was, 5 + was, isLens ? was - 20 : 0, isLens ? was % 3 : -1);
            }
            EDGE.shows(x, 7, "many", 0);
        }
    }

    private static void takeTellsPlace() {
        EDGE.says("4 take returns its PLACE:", EdgeStandTest::ends);
        EDGE.answers(0, "take", 0);
        EDGE.answers(99, "take", 1);
    }

    // ---- promise 5.

    private static void movePiece() {
        EDGE.says("5 move: there is no such PIECE:", EdgeStandTest::three);
        EDGE.answers(20, "move", 0, 50);
        EDGE.answers(40, "move", 2, 50);
        for (int piece : new int[] {LEAST, -1, 3, 8, MOST}) {
            EDGE.out("move", piece, 50);
        }
    }

    private static void movePlace() {
        EDGE.says("5 move: place is not 0 to 99:", EdgeStandTest::three);
        EDGE.piece(EDGE.answers(20, "move", 0, 0), 0, 0, 8, 10, 1);
        EDGE.piece(EDGE.answers(20, "move", 0, 99), 0, 99, 8, 10, 1);
        for (int place : new int[] {LEAST, -1, 100, MOST}) {
            EDGE.out("move", 0, place);
        }
    }

    private static void moveToAnother() {
        EDGE.says("5 move: there is another one:", EdgeStandTest::three);
        EDGE.state("move", 0, 60);
        EDGE.state("move", 0, 40);
        EDGE.state("move", 1, 20);
        EDGE.state("move", 2, 20);
        EDGE.state("move", 2, 60);
        EDGE.answers(20, "move", 0, 59);
        EDGE.answers(20, "move", 0, 61);
        EDGE.piece(EDGE.answers(20, "move", 0, 20), 0, 20, 8, 10, 1);
        EDGE.piece(EDGE.answers(40, "move", 2, 40), 2, 40, 3, 0, -1);
        EDGE.says("5 move: another one, though not of the TRAIN:", EdgeStandTest::ends);
        EDGE.state("move", 0, 99);
        EDGE.state("move", 1, 0);
    }

    private static void moveTellsBefore() {
        EDGE.says("5 move returns that before:", EdgeStandTest::three);
        Lensbench x = EDGE.answers(60, "move", 1, 10);
        EDGE.shows(x, 10, "move", 1, 11);
        EDGE.piece(x, 0, 20, 8, 10, 1);
        EDGE.piece(x, 1, 11, 12, -7, 2);
        EDGE.piece(x, 2, 40, 3, 0, -1);
        EDGE.shows(x, "T)(|#", "rail");
    }

    // ---- promise 6.

    private static void halfPiece() {
        EDGE.says("6 half: there is no such PIECE:", EdgeStandTest::three);
        EDGE.answers(8, "half", 0, 5);
        EDGE.answers(3, "half", 2, 5);
        for (int piece : new int[] {LEAST, -1, 3, 8, MOST}) {
            EDGE.out("half", piece, 5);
        }
    }

    private static void halfEnds() {
        EDGE.says("6 half: half is not 1 to 20:", EdgeStandTest::three);
        EDGE.piece(EDGE.answers(8, "half", 0, 1), 0, 20, 1, 10, 1);
        EDGE.piece(EDGE.answers(3, "half", 2, 20), 2, 40, 20, 0, -1);
        for (int half : new int[] {LEAST, -1, 0, 21, MOST}) {
            EDGE.wrong("half", 0, half);
            EDGE.wrong("half", 2, half);
        }
    }

    private static void halfTellsBefore() {
        EDGE.says("6 half returns that before:", EdgeStandTest::three);
        Lensbench x = EDGE.answers(12, "half", 1, 20);
        EDGE.shows(x, 20, "half", 1, 20);
        EDGE.shows(x, 20, "half", 1, 1);
        EDGE.piece(x, 0, 20, 8, 10, 1);
        EDGE.piece(x, 1, 60, 1, -7, 2);
        EDGE.piece(x, 2, 40, 3, 0, -1);
    }

    // ---- promise 7.

    private static void swapPieces() {
        EDGE.says("7 swap: there is no such PIECE, of both:", EdgeStandTest::three);
        EDGE.answers(40, "swap", 0, 2);
        EDGE.answers(20, "swap", 2, 0);
        for (int piece : new int[] {LEAST, -1, 3, 8, MOST}) {
            EDGE.out("swap", piece, 0);
            EDGE.out("swap", 0, piece);
            EDGE.out("swap", piece, piece);
        }
    }

    private static void swapTells() {
        EDGE.says("7 swap returns the PLACE of the first one then:", EdgeStandTest::three);
        Lensbench x = EDGE.answers(60, "swap", 0, 1);
        EDGE.piece(x, 0, 60, 8, 10, 1);
        EDGE.piece(x, 1, 20, 12, -7, 2);
        EDGE.piece(x, 2, 40, 3, 0, -1);
        EDGE.shows(x, "T)|(#", "rail");
        EDGE.says("7 swap of a PIECE with the same:", EdgeStandTest::three);
        Lensbench same = EDGE.answers(60, "swap", 1, 1);
        EDGE.holds("all stands as before", Edge.standing(same).equals(Edge.standing(three())));
        EDGE.says("7 swap of those at the ends of the rail:", EdgeStandTest::ends);
        Lensbench far = EDGE.answers(99, "swap", 0, 1);
        EDGE.piece(far, 0, 99, 5, 0, -1);
        EDGE.piece(far, 1, 0, 6, 7, 1);
    }

    // ---- promise 8.

    private static void thingPlace() {
        EDGE.says("8 thing: place is not 0 to 99:", EdgeStandTest::three);
        EDGE.shows(EDGE.answers(0, "thing", 98), 98, "many", 3);
        EDGE.shows(EDGE.answers(0, "thing", 0), 0, "many", 3);
        for (int place : new int[] {LEAST, -1, 100, MOST}) {
            EDGE.out("thing", place);
        }
    }

    private static void thingAheadOfScreen() {
        EDGE.says("8 thing: the SCREEN is not behind it then:", EdgeStandTest::three);
        EDGE.state("thing", 99);
        EDGE.says("8 thing: the SCREEN at 50 is not behind it then:", () -> between(10, 50));
        EDGE.shows(EDGE.answers(10, "thing", 49), 49, "many", 3);
        EDGE.shows(EDGE.answers(10, "thing", 0), 0, "many", 3);
        EDGE.state("thing", 50);
        EDGE.state("thing", 51);
        EDGE.state("thing", 99);
        EDGE.says("8 thing: the SCREEN at 1 is not behind it then:", () -> between(0, 1));
        EDGE.answers(0, "thing", 0);
        EDGE.state("thing", 1);
    }

    private static void thingTellsBefore() {
        EDGE.says("8 thing returns that before:", () -> between(10, 50));
        Lensbench x = EDGE.answers(10, "thing", 40);
        EDGE.shows(x, 40, "thing", 40);
        EDGE.shows(x, 40, "thing", 7);
        EDGE.shows(x, 7, "many", 3);
        EDGE.shows(x, 50, "many", 4);
    }

    // ---- promise 9.

    private static void screenPlace() {
        EDGE.says("9 screen: place is not 0 to 99:", EdgeStandTest::three);
        EDGE.shows(EDGE.answers(99, "screen", 99), 99, "many", 4);
        EDGE.shows(EDGE.answers(99, "screen", 1), 1, "many", 4);
        for (int place : new int[] {LEAST, -1, 100, MOST}) {
            EDGE.out("screen", place);
        }
    }

    private static void screenBehindThing() {
        EDGE.says("9 screen: it is not behind the THING then:", EdgeStandTest::three);
        EDGE.state("screen", 0);
        EDGE.says("9 screen: it is not behind the THING at 50 then:", () -> between(50, 90));
        EDGE.shows(EDGE.answers(90, "screen", 51), 51, "many", 4);
        EDGE.shows(EDGE.answers(90, "screen", 99), 99, "many", 4);
        EDGE.state("screen", 50);
        EDGE.state("screen", 49);
        EDGE.state("screen", 0);
        EDGE.says("9 screen: it is not behind the THING at 98 then:", () -> between(98, 99));
        EDGE.answers(99, "screen", 99);
        EDGE.state("screen", 98);
    }

    private static void screenTellsBefore() {
        EDGE.says("9 screen returns that before:", () -> between(10, 50));
        Lensbench x = EDGE.answers(50, "screen", 40);
        EDGE.shows(x, 40, "screen", 40);
        EDGE.shows(x, 40, "screen", 70);
        EDGE.shows(x, 70, "many", 4);
        EDGE.shows(x, 10, "many", 3);
    }

    // ---- promise 10.

    private static void tallEnds() {
        EDGE.says("10 tall: quarters is not 0 to 80:", EdgeStandTest::three);
        EDGE.shows(EDGE.answers(4, "tall", 0), 0, "many", 9);
        EDGE.shows(EDGE.answers(4, "tall", 80), 80, "many", 9);
        for (int quarters : new int[] {LEAST, -1, 81, MOST}) {
            EDGE.wrong("tall", quarters);
        }
    }

    private static void tallTellsBefore() {
        EDGE.says("10 tall returns that before:", EdgeStandTest::three);
        Lensbench x = EDGE.answers(4, "tall", 79);
        EDGE.shows(x, 79, "tall", 79);
        EDGE.shows(x, 79, "tall", 1);
        EDGE.shows(x, 1, "many", 9);
    }

    // ---- promise 11.

    private static void rattleCounts() {
        EDGE.says("11 rattle returns how many were REFUSED ever, with this:", EdgeStandTest::three);
        Lensbench x = EDGE.answers(1, "rattle");
        EDGE.shows(x, 2, "rattle");
        EDGE.shows(x, "throws.IndexOutOfBoundsException", "lens", 100, 5, 5, 0);
        EDGE.shows(x, "throws.IllegalArgumentException", "tall", 81);
        EDGE.shows(x, "throws.IllegalStateException", "screen", 0);
        EDGE.shows(x, 2, "many", 7);
        EDGE.shows(x, 20, "take", 0);
        EDGE.shows(x, 3, "rattle");
        EDGE.shows(x, 3, "many", 7);
        EDGE.says("11 rattle, 511 times and the last look:", Lensbench::new);
        Lensbench often = new Lensbench();
        for (int i = 1; i <= 511; i++) {
            EDGE.shows(often, i, "rattle");
        }
        EDGE.shows(often, 511, "many", 7);
    }
}
