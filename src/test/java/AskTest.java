/** Promises 12 to 22: what is asked. */
public final class AskTest {
    private static final Check CHECK = new Check("AskTest");

    public static void main(String[] args) {
        ofPiece();
        strength();
        freeRay();
        cutRay();
        rayThrows();
        table();
        image();
        imageEdges();
        imageThresholds();
        imageThrows();
        many();
        opening();
        openingEdges();
        light();
        lightIsGreen();
        rail();
        blur();
        apart();
        noMinusZero();
        CHECK.end();
    }

    private static Lensbench one(int place, int half, int power, int glass) {
        Lensbench x = new Lensbench();
        x.lens(place, half, power, glass);
        return x;
    }

    private static void ofPiece() {
        Lensbench x = one(60, 8, 10, 1);
        x.stop(20, 3);
        x.lens(0, 5, -50, 2);
        x.lens(99, 5, 50, 0);
        int[][] due = {{60, 8, 10, 1, 1}, {20, 3, 0, -1, 0}, {0, 5, -50, 2, -1}, {99, 5, 50, 0, -1}};
        for (int piece = 0; piece < due.length; piece++) {
            for (int what = 0; what <= 4; what++) {
                CHECK.whole("ofPiece(" + piece + ", " + what + ")", x.ofPiece(piece, what), due[piece][what]);
            }
        }
        CHECK.throwsOut("ofPiece(4, 5)", () -> x.ofPiece(4, 5));
        CHECK.throwsOut("ofPiece(-1, 0)", () -> x.ofPiece(-1, 0));
        CHECK.throwsWrong("ofPiece(0, 5)", () -> x.ofPiece(0, 5));
        CHECK.throwsWrong("ofPiece(0, -1)", () -> x.ofPiece(0, -1));
    }

    private static void strength() {
        Lensbench x = one(10, 5, 50, 0);
        x.lens(11, 5, 7, 1);
        x.lens(12, 5, -50, 2);
        x.stop(13, 5);
        x.lens(14, 5, 1, 2);
        x.lens(15, 5, -1, 0);
        double[][] due = {
            {0.5, 0.5, 0.5},
            {0.07 * (1.0 - 0.02), 0.07, 0.07 * (1.0 + 0.02)},
            {-0.5 * (1.0 - 0.05), -0.5, -0.5 * (1.0 + 0.05)},
            {0.0, 0.0, 0.0},
            {0.01 * (1.0 - 0.05), 0.01, 0.01 * (1.0 + 0.05)},
            {-0.01, -0.01, -0.01}};
        for (int piece = 0; piece < due.length; piece++) {
            for (int colour = 0; colour <= 2; colour++) {
                CHECK.real("strength(" + piece + ", " + colour + ")",
                        x.strength(piece, colour), due[piece][colour]);
            }
        }
        CHECK.throwsOut("strength(6, 3)", () -> x.strength(6, 3));
        CHECK.throwsOut("strength(-1, 0)", () -> x.strength(-1, 0));
        CHECK.throwsWrong("strength(0, 3)", () -> x.strength(0, 3));
        CHECK.throwsWrong("strength(3, -1)", () -> x.strength(3, -1));
    }

    private static void ray(Lensbench x, int height, int slope, int colour, double h, double u, double cut) {
        String call = "ray(" + height + ", " + slope + ", " + colour + ", ";
        CHECK.real(call + "0)", x.ray(height, slope, colour, 0), h);
        CHECK.real(call + "1)", x.ray(height, slope, colour, 1), u);
        CHECK.real(call + "2)", x.ray(height, slope, colour, 2), cut);
    }

    private static void freeRay() {
        Lensbench x = new Lensbench();
        ray(x, 4, 10, 1, 1.0 + 0.1 * 99, 0.1, -1.0);
        ray(x, -80, -100, 0, -20.0 - 99.0, -1.0, -1.0);
        ray(x, 80, 100, 2, 20.0 + 99.0, 1.0, -1.0);
        x.thing(9);
        x.screen(19);
        ray(x, 3, 25, 1, 0.75 + 0.25 * 10, 0.25, -1.0);
        x.lens(13, 20, 50, 2);
        double red = 0.5 * (1.0 - 0.05);
        double h = 0.75 + 0.25 * 4;
        double u = 0.25 - h * red;
        ray(x, 3, 25, 0, h + u * 6, u, -1.0);
        x.lens(16, 20, -10, 1);
        double h2 = h + u * 3;
        double u2 = u - h2 * (-0.1 * (1.0 - 0.02));
        ray(x, 3, 25, 0, h2 + u2 * 3, u2, -1.0);
    }

    private static void cutRay() {
        Lensbench x = new Lensbench();
        x.stop(50, 20);
        x.lens(20, 5, 25, 0);
        x.stop(10, 3);
        ray(x, 0, 25, 1, 5.0 - 1.0 * 30, 0.25 - 5.0 * 0.25, 0.0);
        x.half(0, 20);
        x.screen(30);
        ray(x, 0, 25, 1, 5.0 - 10.0, -1.0, -1.0);
        ray(x, 0, 26, 1, 0.26 * 10 + 0.26 * 10, 0.26, 1.0);
        ray(x, 0, 30, 1, 0.3 * 10 + 0.3 * 10, 0.3, 1.0);
        ray(x, 0, 31, 1, 0.31 * 10, 0.31, 2.0);
        ray(x, 0, -31, 1, -0.31 * 10, -0.31, 2.0);
        ray(x, 12, 0, 1, 3.0 + (0.0 - 3.0 * 0.25) * 10, -0.75, -1.0);
        ray(x, 13, 0, 1, 3.25, 0.0, 2.0);
        ray(x, -12, 0, 1, -3.0 + 0.75 * 10, 0.75, -1.0);
        ray(x, -13, 0, 1, -3.25, 0.0, 2.0);
    }

    private static void rayThrows() {
        Lensbench x = new Lensbench();
        CHECK.throwsWrong("height 81", () -> x.ray(81, 0, 0, 0));
        CHECK.throwsWrong("height -81", () -> x.ray(-81, 0, 0, 0));
        CHECK.throwsWrong("height least", () -> x.ray(Integer.MIN_VALUE, 0, 0, 0));
        CHECK.throwsWrong("slope 101", () -> x.ray(0, 101, 0, 0));
        CHECK.throwsWrong("slope -101", () -> x.ray(0, -101, 0, 0));
        CHECK.throwsWrong("colour 3", () -> x.ray(0, 0, 3, 0));
        CHECK.throwsWrong("colour -1", () -> x.ray(0, 0, -1, 0));
        CHECK.throwsWrong("what 3", () -> x.ray(0, 0, 0, 3));
        CHECK.throwsWrong("what -1", () -> x.ray(0, 0, 0, -1));
    }

    private static void tableIs(Lensbench x, int colour, double a, double b, double c, double d) {
        CHECK.real("table(" + colour + ", 0)", x.table(colour, 0), a);
        CHECK.real("table(" + colour + ", 1)", x.table(colour, 1), b);
        CHECK.real("table(" + colour + ", 2)", x.table(colour, 2), c);
        CHECK.real("table(" + colour + ", 3)", x.table(colour, 3), d);
    }

    private static void table() {
        Lensbench x = new Lensbench();
        tableIs(x, 1, 1.0, 0.0, 0.0, 1.0);
        x.thing(4);
        x.lens(20, 5, 25, 2);
        for (int colour = 0; colour <= 2; colour++) {
            double s = x.strength(0, colour);
            tableIs(x, colour, 1.0, 16.0, -s, 1.0 - 16.0 * s);
        }
        x.lens(26, 5, -50, 1);
        for (int colour = 0; colour <= 2; colour++) {
            double s = x.strength(0, colour);
            double t = x.strength(1, colour);
            double a = 1.0 + -s * 6;
            double b = 16.0 + (1.0 - 16.0 * s) * 6;
            tableIs(x, colour, a, b, -s - a * t, 1.0 - 16.0 * s - b * t);
        }
        x.take(1);
        x.stop(30, 1);
        tableIs(x, 1, 1.0 - 0.25 * 10, 16.0 - 3.0 * 10, -0.25, -3.0);
        x.screen(20);
        tableIs(x, 1, 1.0, 0.0, 0.0, 1.0);
        CHECK.throwsWrong("table(3, 0)", () -> x.table(3, 0));
        CHECK.throwsWrong("table(-1, 0)", () -> x.table(-1, 0));
        CHECK.throwsWrong("table(0, 4)", () -> x.table(0, 4));
        CHECK.throwsWrong("table(0, -1)", () -> x.table(0, -1));
    }

    private static void imageIs(Lensbench x, int colour, double there, double back, double large,
            double real, double focus) {
        double[] due = {there, back, large, real, focus};
        for (int what = 0; what < due.length; what++) {
            CHECK.real("image(" + colour + ", " + what + ")", x.image(colour, what), due[what]);
        }
    }

    private static void image() {
        Lensbench x = one(20, 5, 10, 0);
        double c = -0.1;
        imageIs(x, 1, 1.0, 20.0, 1.0 + c * 20.0, 1.0, -(1.0 / c));
        x.move(0, 5);
        imageIs(x, 1, 1.0, -10.0, 1.0 + c * -10.0, 0.0, -(1.0 / c));
        Lensbench y = one(10, 5, -20, 2);
        double s = -0.2 * (1.0 + 0.05);
        double b = 10.0;
        double d = 1.0 - b * s;
        imageIs(y, 2, 1.0, -(b / d), 1.0 - s * -(b / d), 0.0, -(1.0 / -s));
    }

    private static void imageEdges() {
        Lensbench none = new Lensbench();
        imageIs(none, 0, 1.0, 0.0, 1.0, 0.0, 0.0);
        Lensbench collimates = one(10, 5, 10, 1);
        imageIs(collimates, 1, 0.0, 0.0, 0.0, 0.0, 10.0);
        double s = 0.1 * (1.0 - 0.02);
        double d = 1.0 - 10.0 * s;
        imageIs(collimates, 0, 1.0, -(10.0 / d), 1.0 - s * -(10.0 / d), 0.0, -(1.0 / -s));
        Lensbench noFocus = one(10, 20, 10, 0);
        noFocus.lens(30, 20, 10, 0);
        imageIs(noFocus, 1, 1.0, 10.0, -1.0, 1.0, 0.0);
        Lensbench onlyStop = new Lensbench();
        onlyStop.stop(7, 3);
        imageIs(onlyStop, 1, 1.0, -7.0, 1.0, 0.0, 0.0);
    }

    /** Each {distance, power, glass}, so that D or C comes just above or just below 0.000001. */
    private static void imageThresholds() {
        Lensbench image = lenses(new int[][] {{4, -25, 2}, {3, 31, 2}, {20, 8, 2}});
        double d = image.table(2, 3);
        CHECK.whole("D is hardly above", d >= 0.000001 && d < 0.0000011 ? 1 : 0, 1);
        CHECK.real("an image then", image.image(2, 0), 1.0);
        CHECK.real("its back", image.image(2, 1), -(image.table(2, 1) / d));
        Lensbench none = lenses(new int[][] {{6, 42, 2}, {2, 39, 1}, {15, 7, 1}});
        d = Math.abs(none.table(2, 3));
        CHECK.whole("D is hardly below", d < 0.000001 && d > 0.0000009 ? 1 : 0, 1);
        for (int what = 0; what <= 3; what++) {
            CHECK.real("no image then, " + what, none.image(2, what), 0.0);
        }
        Lensbench focus = lenses(new int[][] {{1, -41, 2}, {4, -38, 0}, {8, -1, 1}, {8, 6, 1}});
        double c = focus.table(0, 2);
        CHECK.whole("C is hardly above", Math.abs(c) >= 0.000001 && Math.abs(c) < 0.0000011 ? 1 : 0, 1);
        CHECK.real("a focus then", focus.image(0, 4), -(1.0 / c));
        Lensbench blunt = lenses(new int[][] {{10, 9, 2}, {17, 26, 1}, {6, -11, 0}});
        c = Math.abs(blunt.table(0, 2));
        CHECK.whole("C is hardly below", c < 0.000001 && c > 0.0000009 ? 1 : 0, 1);
        CHECK.real("no focus then", blunt.image(0, 4), 0.0);
    }

    private static Lensbench lenses(int[][] rows) {
        Lensbench x = new Lensbench();
        int place = 0;
        for (int[] row : rows) {
            place += row[0];
            x.lens(place, 20, row[1], row[2]);
        }
        return x;
    }

    private static void imageThrows() {
        Lensbench x = one(10, 5, 10, 1);
        CHECK.throwsWrong("image(3, 0)", () -> x.image(3, 0));
        CHECK.throwsWrong("image(-1, 0)", () -> x.image(-1, 0));
        CHECK.throwsWrong("image(1, 5)", () -> x.image(1, 5));
        CHECK.throwsWrong("image(1, -1)", () -> x.image(1, -1));
    }

    private static void many() {
        Lensbench x = new Lensbench();
        x.lens(50, 20, 1, 0);
        x.stop(30, 20);
        x.lens(10, 20, 1, 0);
        x.stop(60, 20);
        x.thing(10);
        x.screen(60);
        x.tall(7);
        x.rattle();
        int[] due = {4, 2, 2, 10, 60, 0, 21, 1, 50, 7};
        for (int what = 0; what < due.length; what++) {
            CHECK.whole("many(" + what + ")", x.many(what), due[what]);
        }
        x.screen(20);
        CHECK.whole("many(2) without a train", x.many(2), 0);
        CHECK.whole("many(5) without a train", x.many(5), -1);
        CHECK.whole("many(8) without a train", x.many(8), 10);
        CHECK.throwsWrong("many(10)", () -> x.many(10));
        CHECK.throwsWrong("many(-1)", () -> x.many(-1));
    }

    private static void openingIs(Lensbench x, int piece, double least) {
        CHECK.whole("many(5)", x.many(5), piece);
        CHECK.real("grasp()", x.grasp(), least);
    }

    private static void opening() {
        Lensbench x = new Lensbench();
        openingIs(x, -1, 0.0);
        x.stop(40, 8);
        openingIs(x, 0, 8 / 40.0);
        x.lens(20, 5, 10, 2);
        // b is 20 ahead of the lens and 20 - 20 behind it, so that the stop is left out.
        openingIs(x, 1, 5 / 20.0);
        x.move(0, 60);
        openingIs(x, 1, 5 / 20.0);
        x.half(1, 20);
        openingIs(x, 0, 8 / 20.0);
        x.screen(60);
        openingIs(x, 1, 20 / 20.0);
    }

    private static void openingEdges() {
        Lensbench same = new Lensbench();
        same.stop(20, 10);
        same.stop(10, 5);
        same.stop(30, 15);
        openingIs(same, 1, 0.5);
        same.half(2, 14);
        openingIs(same, 2, 14 / 30.0);
        // Behind this lens B is 10 in green, more in red, less in blue.
        Lensbench green = one(10, 10, 10, 2);
        green.stop(20, 10);
        openingIs(green, 0, 1.0);
        green.half(0, 11);
        openingIs(green, 1, 1.0);
        // The first piece stands at B of 20; the second one, in its image, at a B of 0.
        Lensbench left = new Lensbench();
        left.lens(20, 20, 10, 0);
        left.stop(40, 1);
        openingIs(left, 0, 1.0);
    }

    private static void light() {
        Lensbench x = new Lensbench();
        x.tall(0);
        x.stop(10, 1);
        x.stop(20, 1);
        x.stop(99, 1);
        // The slopes are -0.2 to 0.2 in steps of 0.02: 11 of them stay below 0.1, 5 below 0.05.
        CHECK.whole("light", x.many(6), 5);
        CHECK.whole("through(0)", x.through(0), 11);
        CHECK.whole("through(1)", x.through(1), 5);
        CHECK.whole("through(2)", x.through(2), 0);
        x.swap(0, 1);
        CHECK.whole("through(0) swapped", x.through(0), 5);
        CHECK.whole("through(1) swapped", x.through(1), 11);
        x.tall(4);
        CHECK.whole("through(1) from the top", x.through(1), 11);
        CHECK.throwsOut("through(3)", () -> x.through(3));
        CHECK.throwsOut("through(-1)", () -> x.through(-1));
        x.thing(10);
        CHECK.whole("through(1) at the thing", x.through(1), 0);
    }

    /** With red 13 of the fan would come through the stop, with blue 17. */
    private static void lightIsGreen() {
        Lensbench x = one(9, 20, 10, 2);
        x.tall(0);
        x.stop(49, 2);
        CHECK.whole("through(1) in green", x.through(1), 15);
        CHECK.whole("through(0) in green", x.through(0), 21);
        CHECK.whole("light in green", x.many(6), 15);
        x.stop(60, 20);
        CHECK.whole("without(2) in green", x.without(2), 15);
    }

    private static void rail() {
        Lensbench x = new Lensbench();
        CHECK.text("rail()", x.rail(), "T#");
        x.stop(50, 1);
        x.lens(40, 1, -1, 0);
        x.lens(60, 1, 1, 0);
        x.lens(0, 1, 1, 0);
        x.stop(99, 1);
        CHECK.text("rail()", x.rail(), "T)|(#");
        x.swap(1, 2);
        CHECK.text("rail()", x.rail(), "T(|)#");
        x.screen(60);
        CHECK.text("rail()", x.rail(), "T(|#");
    }

    private static void blur() {
        Lensbench x = new Lensbench();
        double top = 1.0 + 0.2 * 99;
        double foot = 1.0 - 0.2 * 99;
        for (int colour = 0; colour <= 2; colour++) {
            CHECK.real("blur(" + colour + ") of an empty bench", x.blur(colour), top - foot);
        }
        x.stop(10, 1);
        x.tall(0);
        x.screen(20);
        CHECK.real("blur(1) behind a stop", x.blur(1), (0.1 * 10 + 0.1 * 10) * 2);
        x.tall(80);
        CHECK.real("blur(1) in the dark", x.blur(1), 0.0);
        Lensbench y = one(10, 20, 10, 2);
        y.tall(0);
        y.screen(30);
        double red = 0.1 * (1.0 - 0.05);
        double h = 0.2 * 10;
        double edge = h + (0.2 - h * red) * 20;
        CHECK.real("blur(0) behind a lens", y.blur(0), edge + edge);
        CHECK.throwsWrong("blur(3)", () -> x.blur(3));
        CHECK.throwsWrong("blur(-1)", () -> x.blur(-1));
    }

    private static void apart() {
        CHECK.real("apart() of an empty bench", new Lensbench().apart(), 0.0);
        CHECK.real("apart() of plain glass", one(20, 5, 10, 0).apart(), 0.0);
        Lensbench x = one(20, 5, 10, 2);
        CHECK.real("apart()", x.apart(), x.image(2, 1) - x.image(0, 1));
        double red = 1.0 - 20.0 * (0.1 * (1.0 - 0.05));
        double blue = 1.0 - 20.0 * (0.1 * (1.0 + 0.05));
        CHECK.real("apart() reckoned", x.apart(), -(20.0 / blue) - -(20.0 / red));
        CHECK.real("apart() without an image in both", one(10, 5, 10, 0).apart(), 0.0);
        Lensbench noRed = one(2, 5, 40, 2);
        noRed.lens(27, 5, 3, 0);
        apartWithout(noRed, 0, 2);
        Lensbench noBlue = one(4, 5, 20, 2);
        noBlue.lens(29, 5, 2, 0);
        apartWithout(noBlue, 2, 0);
    }

    private static void apartWithout(Lensbench x, int colour, int other) {
        CHECK.real("image(" + colour + ", 0)", x.image(colour, 0), 0.0);
        CHECK.real("image(" + other + ", 0)", x.image(other, 0), 1.0);
        CHECK.real("apart() without an image in " + colour, x.apart(), 0.0);
    }

    private static void noMinusZero() {
        Lensbench x = new Lensbench();
        CHECK.real("ray(0, 0, 1, 0)", x.ray(0, 0, 1, 0), 0.0);
        CHECK.real("back at once", x.image(1, 1), 0.0);
        x.lens(10, 20, 10, 0);
        x.lens(11, 20, -10, 0);
        CHECK.real("ray(0, 0, 1, 1)", x.ray(0, 0, 1, 1), 0.0);
        Lensbench y = one(10, 20, 10, 0);
        y.tall(0);
        y.screen(20);
        CHECK.real("table(1, 3)", y.table(1, 3), 0.0);
        y.stop(5, 1);
        CHECK.real("strength of a stop", y.strength(1, 0), 0.0);
    }
}
