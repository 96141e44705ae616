/** Promises 1 to 11: what stands where. */
public final class StandTest {
    private static final Check CHECK = new Check("StandTest");

    public static void main(String[] args) {
        newObject();
        lens();
        lensThrows();
        stop();
        eightPieces();
        take();
        move();
        half();
        swap();
        thing();
        screen();
        tall();
        rattle();
        CHECK.end();
    }

    // A pair of lenses and a stop between them: PLACES 20, 60 and 40.
    private static Lensbench three() {
        Lensbench x = new Lensbench();
        x.lens(20, 8, 10, 1);
        x.lens(60, 12, -7, 2);
        x.stop(40, 3);
        return x;
    }

    // The digest covers all that stands somewhere, so an equal one tells that nothing was changed.
    private static void out(String call, Lensbench x, Runnable run) {
        long before = x.digest();
        CHECK.throwsOut(call, run);
        CHECK.whole("digest after " + call, x.digest(), before);
    }

    private static void wrong(String call, Lensbench x, Runnable run) {
        long before = x.digest();
        CHECK.throwsWrong(call, run);
        CHECK.whole("digest after " + call, x.digest(), before);
    }

    private static void state(String call, Lensbench x, Runnable run) {
        long before = x.digest();
        CHECK.throwsState(call, run);
        CHECK.whole("digest after " + call, x.digest(), before);
    }

    private static void piece(Lensbench x, int piece, int place, int half, int power, int glass) {
        CHECK.whole("place of " + piece, x.ofPiece(piece, 0), place);
        CHECK.whole("half of " + piece, x.ofPiece(piece, 1), half);
        CHECK.whole("power of " + piece, x.ofPiece(piece, 2), power);
        CHECK.whole("glass of " + piece, x.ofPiece(piece, 3), glass);
    }

    private static void newObject() {
        Lensbench x = new Lensbench();
        int[] due = {0, 0, 0, 0, 99, -1, 21, 0, 0, 4};
        for (int what = 0; what < due.length; what++) {
            CHECK.whole("new many(" + what + ")", x.many(what), due[what]);
        }
        CHECK.text("new rail()", x.rail(), "T#");
        CHECK.throwsOut("new ofPiece(0, 0)", () -> x.ofPiece(0, 0));
    }

    private static void lens() {
        Lensbench x = new Lensbench();
        CHECK.whole("lens(0, 1, -50, 0)", x.lens(0, 1, -50, 0), 0);
        CHECK.whole("lens(99, 20, 50, 2)", x.lens(99, 20, 50, 2), 1);
        CHECK.whole("lens(50, 7, 1, 1)", x.lens(50, 7, 1, 1), 2);
        CHECK.whole("lens(49, 7, -1, 1)", x.lens(49, 7, -1, 1), 3);
        piece(x, 0, 0, 1, -50, 0);
        piece(x, 1, 99, 20, 50, 2);
        piece(x, 2, 50, 7, 1, 1);
        piece(x, 3, 49, 7, -1, 1);
        CHECK.whole("many(1)", x.many(1), 4);
    }

    private static void lensThrows() {
        Lensbench x = three();
        out("lens(-1, ..)", x, () -> x.lens(-1, 5, 5, 0));
        out("lens(100, ..)", x, () -> x.lens(100, 5, 5, 0));
        out("lens(least, ..)", x, () -> x.lens(Integer.MIN_VALUE, 0, 0, 3));
        wrong("half 0", x, () -> x.lens(5, 0, 5, 0));
        wrong("half 21", x, () -> x.lens(5, 21, 5, 0));
        wrong("power 0", x, () -> x.lens(5, 5, 0, 0));
        wrong("power -51", x, () -> x.lens(5, 5, -51, 0));
        wrong("power 51", x, () -> x.lens(5, 5, 51, 0));
        wrong("power least", x, () -> x.lens(5, 5, Integer.MIN_VALUE, 0));
        wrong("glass -1", x, () -> x.lens(5, 5, 5, -1));
        wrong("glass 3", x, () -> x.lens(5, 5, 5, 3));
        wrong("glass 3 at a place that is taken", x, () -> x.lens(20, 5, 5, 3));
        state("place taken", x, () -> x.lens(20, 5, 5, 0));
        state("place of the stop", x, () -> x.lens(40, 5, 5, 0));
    }

    private static void stop() {
        Lensbench x = three();
        CHECK.whole("stop(0, 1)", x.stop(0, 1), 3);
        CHECK.whole("stop(99, 20)", x.stop(99, 20), 4);
        piece(x, 3, 0, 1, 0, -1);
        piece(x, 4, 99, 20, 0, -1);
        CHECK.whole("lenses", x.many(1), 2);
        CHECK.whole("pieces", x.many(0), 5);
        out("stop(-1, 0)", x, () -> x.stop(-1, 0));
        out("stop(100, 5)", x, () -> x.stop(100, 5));
        wrong("stop(5, 0)", x, () -> x.stop(5, 0));
        wrong("stop(20, 21)", x, () -> x.stop(20, 21));
        state("stop(20, 5)", x, () -> x.stop(20, 5));
    }

    private static void eightPieces() {
        Lensbench x = new Lensbench();
        for (int i = 0; i < 7; i++) {
            CHECK.whole("stop " + i, x.stop(10 * i, 5), i);
        }
        CHECK.whole("the eighth", x.lens(90, 5, 5, 0), 7);
        state("a ninth lens", x, () -> x.lens(91, 5, 5, 0));
        state("a ninth stop", x, () -> x.stop(91, 5));
        wrong("a ninth with half 0", x, () -> x.stop(91, 0));
        out("a ninth at 100", x, () -> x.lens(100, 5, 5, 0));
        x.take(3);
        CHECK.whole("an eighth again", x.stop(30, 5), 7);
        state("a ninth again", x, () -> x.stop(31, 5));
    }

    private static void take() {
        Lensbench x = three();
        out("take(3)", x, () -> x.take(3));
        out("take(-1)", x, () -> x.take(-1));
        CHECK.whole("take(0)", x.take(0), 20);
        piece(x, 0, 60, 12, -7, 2);
        piece(x, 1, 40, 3, 0, -1);
        CHECK.whole("pieces", x.many(0), 2);
        out("take(2)", x, () -> x.take(2));
        CHECK.whole("take(1)", x.take(1), 40);
        CHECK.whole("take(0) again", x.take(0), 60);
        CHECK.text("rail()", x.rail(), "T#");
        out("take(0) of none", x, () -> x.take(0));
        CHECK.whole("its place is free", x.stop(40, 4), 0);
    }

    private static void move() {
        Lensbench x = three();
        CHECK.whole("move(0, 99)", x.move(0, 99), 20);
        CHECK.whole("move(0, 0)", x.move(0, 0), 99);
        CHECK.whole("move to where it is", x.move(0, 0), 0);
        CHECK.whole("move(0, 50)", x.move(0, 50), 0);
        CHECK.text("rail()", x.rail(), "T|()#");
        piece(x, 0, 50, 8, 10, 1);
        out("move(3, 5)", x, () -> x.move(3, 5));
        out("move(-1, 5)", x, () -> x.move(-1, 5));
        out("move(0, -1)", x, () -> x.move(0, -1));
        out("move(0, 100)", x, () -> x.move(0, 100));
        out("move(3, 60)", x, () -> x.move(3, 60));
        state("move(0, 60)", x, () -> x.move(0, 60));
        state("move(2, 50)", x, () -> x.move(2, 50));
    }

    private static void half() {
        Lensbench x = three();
        CHECK.whole("half(1, 20)", x.half(1, 20), 12);
        CHECK.whole("half(1, 1)", x.half(1, 1), 20);
        piece(x, 1, 60, 1, -7, 2);
        CHECK.whole("half(2, 9)", x.half(2, 9), 3);
        piece(x, 2, 40, 9, 0, -1);
        out("half(3, 0)", x, () -> x.half(3, 0));
        out("half(-1, 5)", x, () -> x.half(-1, 5));
        wrong("half(0, 0)", x, () -> x.half(0, 0));
        wrong("half(0, 21)", x, () -> x.half(0, 21));
    }

    private static void swap() {
        Lensbench x = three();
        CHECK.whole("swap(0, 1)", x.swap(0, 1), 60);
        piece(x, 0, 60, 8, 10, 1);
        piece(x, 1, 20, 12, -7, 2);
        CHECK.whole("swap(2, 0)", x.swap(2, 0), 60);
        piece(x, 2, 60, 3, 0, -1);
        piece(x, 0, 40, 8, 10, 1);
        CHECK.whole("swap(1, 1)", x.swap(1, 1), 20);
        piece(x, 1, 20, 12, -7, 2);
        out("swap(0, 3)", x, () -> x.swap(0, 3));
        out("swap(3, 0)", x, () -> x.swap(3, 0));
        out("swap(-1, 0)", x, () -> x.swap(-1, 0));
        out("swap(0, -1)", x, () -> x.swap(0, -1));
    }

    private static void thing() {
        Lensbench x = three();
        CHECK.whole("thing(98)", x.thing(98), 0);
        CHECK.whole("thing(20)", x.thing(20), 98);
        CHECK.whole("many(3)", x.many(3), 20);
        CHECK.text("a piece at the thing is not of the train", x.rail(), "T|)#");
        CHECK.whole("thing(0)", x.thing(0), 20);
        out("thing(-1)", x, () -> x.thing(-1));
        out("thing(100)", x, () -> x.thing(100));
        state("thing(99)", x, () -> x.thing(99));
        x.screen(30);
        state("thing(30)", x, () -> x.thing(30));
        state("thing(31)", x, () -> x.thing(31));
        CHECK.whole("thing(29)", x.thing(29), 0);
    }

    private static void screen() {
        Lensbench x = three();
        CHECK.whole("screen(60)", x.screen(60), 99);
        CHECK.whole("many(4)", x.many(4), 60);
        CHECK.text("a piece at the screen is not of the train", x.rail(), "T(|#");
        CHECK.whole("screen(1)", x.screen(1), 60);
        CHECK.whole("screen(99)", x.screen(99), 1);
        out("screen(-1)", x, () -> x.screen(-1));
        out("screen(100)", x, () -> x.screen(100));
        state("screen(0)", x, () -> x.screen(0));
        x.thing(30);
        state("screen(30)", x, () -> x.screen(30));
        state("screen(29)", x, () -> x.screen(29));
        CHECK.whole("screen(31)", x.screen(31), 99);
    }

    private static void tall() {
        Lensbench x = three();
        CHECK.whole("tall(80)", x.tall(80), 4);
        CHECK.whole("many(9)", x.many(9), 80);
        CHECK.whole("light of it", x.many(6), 0);
        CHECK.whole("tall(0)", x.tall(0), 80);
        wrong("tall(-1)", x, () -> x.tall(-1));
        wrong("tall(81)", x, () -> x.tall(81));
        CHECK.whole("tall(5)", x.tall(5), 0);
    }

    private static void rattle() {
        Lensbench x = new Lensbench();
        CHECK.whole("many(7)", x.many(7), 0);
        for (int i = 1; i <= 5; i++) {
            CHECK.whole("rattle()", x.rattle(), i);
            CHECK.whole("many(7)", x.many(7), i);
        }
        CHECK.throwsOut("take(0)", () -> x.take(0));
        CHECK.whole("only rattling is refused", x.many(7), 5);
        CHECK.whole("each object has its own latch", new Lensbench().rattle(), 1);
    }
}
