/** Promises 23 to 26: what would be, against the same bench with that really done. */
public final class WouldBeTest {
    private static final Check CHECK = new Check("WouldBeTest");

    public static void main(String[] args) {
        sharpByHand();
        sharpMeetsPieces();
        bestByHand();
        without();
        digestByHand();
        for (int which = 0; which < 6; which++) {
            againstTheDone(which);
        }
        throwsAndKeeps();
        CHECK.end();
    }

    private static Lensbench bench(int which) {
        Lensbench x = new Lensbench();
        x.lens(20, 8, 8, 1);
        x.lens(45, 10, -4, 2);
        x.stop(30, 3);
        x.lens(60, 12, 12, 0);
        switch (which) {
            case 1 -> x.screen(50);
            case 2 -> {
                x.thing(20);
                x.tall(0);
            }
            case 3 -> {
                x.tall(80);
                x.rattle();
            }
            case 4 -> {
                x.screen(61);
                x.thing(59);
                x.stop(99, 1);
            }
            case 5 -> {
                x.half(2, 1);
                x.stop(10, 2);
                x.stop(80, 1);
                x.lens(70, 20, 50, 2);
                x.lens(90, 1, -50, 2);
            }
            default -> { }
        }
        return x;
    }

    private static int light(Lensbench x, int colour) {
        int came = 0;
        for (int k = -10; k <= 10; k++) {
            if (x.ray(x.many(9), 2 * k, colour, 2) == -1.0) {
                came++;
            }
        }
        return came;
    }

    private static int sharpDone(int which, int colour) {
        Lensbench x = bench(which);
        int first = x.many(8) + 1;
        int found = -1;
        double least = 0.0;
        for (int place = first; place <= 99; place++) {
            Lensbench moved = bench(which);
            moved.screen(place);
            if (light(moved, colour) > 0 && (found == -1 || moved.blur(colour) < least)) {
                found = place;
                least = moved.blur(colour);
            }
        }
        return found;
    }

    private static int bestDone(int which, int piece, int colour) {
        Lensbench x = bench(which);
        int found = -1;
        double least = 0.0;
        for (int place = x.many(3) + 1; place < x.many(4); place++) {
            Lensbench moved = bench(which);
            try {
                moved.move(piece, place);
            } catch (IllegalStateException e) {
                continue;
            }
            if (light(moved, colour) > 0 && (found == -1 || moved.blur(colour) < least)) {
                found = place;
                least = moved.blur(colour);
            }
        }
        return found;
    }

    private static void againstTheDone(int which) {
        Lensbench x = bench(which);
        for (int colour = 0; colour <= 2; colour++) {
            CHECK.whole("bench " + which + " sharp(" + colour + ")", x.sharp(colour), sharpDone(which, colour));
        }
        for (int piece = 0; piece < x.many(0); piece++) {
            for (int colour = 0; colour <= 2; colour++) {
                CHECK.whole("bench " + which + " best(" + piece + ", " + colour + ")",
                        x.best(piece, colour), bestDone(which, piece, colour));
            }
            Lensbench taken = bench(which);
            taken.take(piece);
            CHECK.whole("bench " + which + " without(" + piece + ")", x.without(piece), taken.many(6));
        }
        CHECK.whole("bench " + which + " is as before", x.digest(), bench(which).digest());
        CHECK.whole("bench " + which + " digest()", x.digest(), digestDone(x));
    }

    private static void sharpByHand() {
        // Without glass between, the fan only widens: the first place of all is the sharpest.
        Lensbench x = new Lensbench();
        CHECK.whole("sharp(1) of an empty bench", x.sharp(1), 1);
        x.thing(97);
        CHECK.whole("sharp(1) near the end", x.sharp(1), 98);
        x.screen(98);
        CHECK.whole("sharp(1) at the place of now", x.sharp(1), 98);
        // The image lies 20 behind a lens of focus 10 that stands 20 behind the thing.
        Lensbench y = new Lensbench();
        y.lens(20, 20, 10, 0);
        CHECK.whole("sharp(1) in the image", y.sharp(1), 40);
        y.half(0, 1);
        y.tall(80);
        CHECK.whole("sharp(1) in the dark", y.sharp(1), -1);
    }

    private static void sharpMeetsPieces() {
        // The stop is not of the train now, but would be with the screen behind it: there it keeps
        // only the middle ray, which has no blur at all.
        Lensbench x = new Lensbench();
        x.tall(0);
        x.stop(80, 1);
        x.screen(10);
        CHECK.whole("sharp(1) ahead of the stop or behind it", x.sharp(1), 81);
        Lensbench last = new Lensbench();
        last.stop(98, 20);
        last.tall(0);
        CHECK.whole("sharp(1) behind a piece at 98", last.sharp(1), 99);
    }

    private static void bestByHand() {
        // The stop cuts the more the farther it stands from the thing.
        Lensbench x = new Lensbench();
        x.tall(0);
        x.stop(5, 1);
        x.screen(11);
        CHECK.whole("best(0, 1) of a stop", x.best(0, 1), bestStop());
        // No place between thing and screen.
        x.thing(10);
        CHECK.whole("best(0, 1) without a place", x.best(0, 1), -1);
        // The only place is that of another piece.
        x.screen(12);
        x.stop(11, 1);
        CHECK.whole("best(0, 1) with the place taken", x.best(0, 1), -1);
        CHECK.whole("best(1, 1) keeps its own", x.best(1, 1), 11);
        // All rays of the tall thing are cut wherever it stands.
        Lensbench dark = new Lensbench();
        dark.stop(50, 1);
        dark.tall(80);
        dark.screen(60);
        CHECK.whole("best(0, 1) in the dark", dark.best(0, 1), -1);
    }

    private static int bestStop() {
        int found = -1;
        double least = 0.0;
        for (int place = 1; place <= 10; place++) {
            double reach = 0.0;
            for (int k = 0; k <= 10; k++) {
                if (k / 50.0 * place <= 1.0) {
                    reach = k / 50.0 * place + k / 50.0 * (11 - place);
                }
            }
            if (found == -1 || reach < least) {
                found = place;
                least = reach;
            }
        }
        return found;
    }

    private static void without() {
        Lensbench x = new Lensbench();
        x.tall(0);
        x.stop(10, 1);
        x.stop(20, 1);
        x.stop(99, 1);
        CHECK.whole("without(0)", x.without(0), 5);
        CHECK.whole("without(1)", x.without(1), 11);
        CHECK.whole("without(2)", x.without(2), 5);
        x.take(1);
        CHECK.whole("without(0) alone", x.without(0), 21);
    }

    private static long digestDone(Lensbench x) {
        long d = 58313L;
        for (int what = 0; what <= 9; what++) {
            d = d * 31 + x.many(what);
        }
        for (int piece = 0; piece < x.many(0); piece++) {
            for (int what = 0; what <= 4; what++) {
                d = d * 31 + x.ofPiece(piece, what);
            }
            for (int colour = 0; colour <= 2; colour++) {
                d = d * 31 + (long) (4096.0 * x.strength(piece, colour));
            }
            d = d * 31 + x.through(piece);
            d = d * 31 + x.without(piece);
        }
        for (int colour = 0; colour <= 2; colour++) {
            for (int what = 0; what <= 3; what++) {
                d = d * 31 + (long) (4096.0 * x.table(colour, what));
            }
            for (int what = 0; what <= 4; what++) {
                d = d * 31 + (long) (4096.0 * x.image(colour, what));
            }
            d = d * 31 + (long) (4096.0 * x.blur(colour));
        }
        d = d * 31 + (long) (4096.0 * x.grasp());
        d = d * 31 + (long) (4096.0 * x.apart());
        d = d * 31 + x.sharp(1);
        for (int what = 0; what <= 2; what++) {
            d = d * 31 + (long) (4096.0 * x.ray(4, 10, 1, what));
        }
        return d;
    }

    private static void digestByHand() {
        long[] due = {
            0, 0, 0, 0, 99, -1, 21, 0, 0, 4,
            4096, 0, 0, 4096, 4096, 0, 4096, 0, 0, spread(),
            4096, 0, 0, 4096, 4096, 0, 4096, 0, 0, spread(),
            4096, 0, 0, 4096, 4096, 0, 4096, 0, 0, spread(),
            0, 0, 1, (long) (4096.0 * (1.0 + 0.1 * 99)), (long) (4096.0 * 0.1), -4096};
        long d = 58313L;
        for (long v : due) {
            d = d * 31 + v;
        }
        CHECK.whole("digest() of an empty bench", new Lensbench().digest(), d);
    }

    private static long spread() {
        return (long) (4096.0 * ((1.0 + 0.2 * 99) - (1.0 - 0.2 * 99)));
    }

    private static void throwsAndKeeps() {
        Lensbench x = bench(0);
        long before = x.digest();
        CHECK.throwsWrong("sharp(3)", () -> x.sharp(3));
        CHECK.throwsWrong("sharp(-1)", () -> x.sharp(-1));
        CHECK.throwsOut("best(4, 3)", () -> x.best(4, 3));
        CHECK.throwsOut("best(-1, 0)", () -> x.best(-1, 0));
        CHECK.throwsWrong("best(0, 3)", () -> x.best(0, 3));
        CHECK.throwsWrong("best(0, -1)", () -> x.best(0, -1));
        CHECK.throwsOut("without(4)", () -> x.without(4));
        CHECK.throwsOut("without(-1)", () -> x.without(-1));
        CHECK.whole("digest()", x.digest(), before);
    }
}
