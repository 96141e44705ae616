import java.util.ArrayList;
import java.util.List;

/** Long runs of calls, right and wrong ones, against a second bench that is written without regard to cost. */
public final class ModelTest {
    private static final int RUNS = 400;
    private static final int CALLS = 512;
    private static final int[] ODD = {-1, 0, 100, 99, 8, 21, 20, 3, 81, -81, 101, -101, 51, -51,
        Integer.MIN_VALUE, Integer.MAX_VALUE};

    private static long seed = 20261119L;

    /** What a call answers: its bits, or the text, or the name of what it throws. */
    private interface Call {
        Object answer();
    }

    private record Piece(int place, int half, int power, int glass) {
        Piece at(int elsewhere) {
            return new Piece(elsewhere, half, power, glass);
        }

        double bend(int colour) {
            double[] spreads = {0.0, 0.02, 0.05};
            return power == 0 ? 0.0 : power / 100.0 * (1.0 + (colour - 1) * spreads[glass]);
        }
    }

    private record Path(double h, double u, int cut) { }

    private record Abcd(double a, double b, double c, double d) { }

    private static final class Model {
        List<Piece> pieces = new ArrayList<>();
        int thing;
        int screen = 99;
        int tall = 4;
        int refused;

        List<Piece> train() {
            List<Piece> train = new ArrayList<>();
            for (int place = thing + 1; place < screen; place++) {
                for (Piece p : pieces) {
                    if (p.place() == place) {
                        train.add(p);
                    }
                }
            }
            return train;
        }

        Path path(double h, double u, int colour) {
            int at = thing;
            for (Piece p : train()) {
                h = h + u * (p.place() - at);
                at = p.place();
                if (Math.abs(h) > p.half()) {
                    return new Path(h, u, pieces.indexOf(p));
                }
                if (p.power() != 0) {
                    u = u - h * p.bend(colour);
                }
            }
            return new Path(h + u * (screen - at), u, -1);
        }

        List<Path> fan(int colour) {
            List<Path> fan = new ArrayList<>();
            for (int k = -10; k <= 10; k++) {
                fan.add(path(tall / 4.0, k / 50.0, colour));
            }
            return fan;
        }

        int light(int colour) {
            int came = 0;
            for (Path p : fan(colour)) {
                came += p.cut() == -1 ? 1 : 0;
            }
            return came;
        }

        double blur(int colour) {
            double most = Double.NEGATIVE_INFINITY;
            double least = Double.POSITIVE_INFINITY;
            for (Path p : fan(colour)) {
                if (p.cut() == -1) {
                    most = Math.max(most, p.h());
                    least = Math.min(least, p.h());
                }
            }
            return most < least ? 0.0 : most - least;
        }

        int through(int piece) {
            int at = train().indexOf(pieces.get(piece));
            if (at == -1) {
                return 0;
            }
            int passed = 0;
            for (Path p : fan(1)) {
                passed += p.cut() == -1 || train().indexOf(pieces.get(p.cut())) > at ? 1 : 0;
            }
            return passed;
        }

        Abcd table(int colour, int upTo) {
            double a = 1.0;
            double b = 0.0;
            double c = 0.0;
            double d = 1.0;
            int at = thing;
            for (int i = 0; i <= upTo && i < train().size(); i++) {
                Piece p = train().get(i);
                a = a + c * (p.place() - at);
                b = b + d * (p.place() - at);
                at = p.place();
                if (p.power() != 0 && i < upTo) {
                    c = c - a * p.bend(colour);
                    d = d - b * p.bend(colour);
                }
            }
            return new Abcd(a, b, c, d);
        }

        Abcd table(int colour) {
            return table(colour, train().size());
        }

        double image(int colour, int what) {
            Abcd t = table(colour);
            if (what == 4) {
                return Math.abs(t.c()) >= 0.000001 ? -(1.0 / t.c()) : 0.0;
            }
            if (!(Math.abs(t.d()) >= 0.000001)) {
                return 0.0;
            }
            double back = -(t.b() / t.d());
            double[] told = {1.0, back, t.a() + t.c() * back, back > 0.0 ? 1.0 : 0.0};
            return told[what];
        }

        double apart() {
            boolean both = image(0, 0) == 1.0 && image(2, 0) == 1.0;
            return both ? image(2, 1) - image(0, 1) : 0.0;
        }

        double ratio(int i) {
            double b = Math.abs(table(1, i).b());
            return b < 0.000001 ? Double.POSITIVE_INFINITY : train().get(i).half() / b;
        }

        double grasp() {
            double least = Double.POSITIVE_INFINITY;
            for (int i = 0; i < train().size(); i++) {
                least = Math.min(least, ratio(i));
            }
            return least == Double.POSITIVE_INFINITY ? 0.0 : least;
        }

        int opening() {
            for (int i = 0; i < train().size(); i++) {
                if (ratio(i) == grasp()) {
                    return pieces.indexOf(train().get(i));
                }
            }
            return -1;
        }

        int last() {
            return train().isEmpty() ? thing : train().get(train().size() - 1).place();
        }

        int many(int what) {
            int lenses = 0;
            for (Piece p : pieces) {
                lenses += p.power() != 0 ? 1 : 0;
            }
            int[] told = {pieces.size(), lenses, train().size(), thing, screen, opening(), light(1),
                refused, last(), tall};
            return told[what];
        }

        String rail() {
            String text = "T";
            for (Piece p : train()) {
                text += p.power() == 0 ? "|" : p.power() > 0 ? "(" : ")";
            }
            return text + "#";
        }

        Model copy() {
            Model m = new Model();
            m.pieces = new ArrayList<>(pieces);
            m.thing = thing;
            m.screen = screen;
            m.tall = tall;
            return m;
        }

        int sharp(int colour) {
            int found = -1;
            double least = Double.POSITIVE_INFINITY;
            for (int place = last() + 1; place <= 99; place++) {
                Model m = copy();
                m.screen = place;
                if (m.light(colour) > 0 && m.blur(colour) < least) {
                    found = place;
                    least = m.blur(colour);
                }
            }
            return found;
        }

        int best(int piece, int colour) {
            int found = -1;
            double least = Double.POSITIVE_INFINITY;
            for (int place = thing + 1; place < screen; place++) {
                Model m = copy();
                m.pieces.set(piece, pieces.get(piece).at(place));
                if (m.alone(piece) && m.light(colour) > 0 && m.blur(colour) < least) {
                    found = place;
                    least = m.blur(colour);
                }
            }
            return found;
        }

        boolean alone(int piece) {
            for (int i = 0; i < pieces.size(); i++) {
                if (i != piece && pieces.get(i).place() == pieces.get(piece).place()) {
                    return false;
                }
            }
            return true;
        }

        int without(int piece) {
            Model m = copy();
            m.pieces.remove(piece);
            return m.light(1);
        }

        boolean taken(int place, int butFor) {
            for (int i = 0; i < pieces.size(); i++) {
                if (i != butFor && pieces.get(i).place() == place) {
                    return true;
                }
            }
            return false;
        }
    }

    private static int below(int bound) {
        seed = seed * 6364136223846793005L + 1442695040888963407L;
        return (int) ((seed >>> 33) % bound);
    }

    /** Mostly from low to high, now and then something odd. */
    private static int from(int low, int high) {
        return below(40) == 0 ? ODD[below(ODD.length)] : low + below(high - low + 1);
    }

    private static void out(boolean bad) {
        if (bad) {
            throw new IndexOutOfBoundsException();
        }
    }

    private static void wrong(boolean bad) {
        if (bad) {
            throw new IllegalArgumentException();
        }
    }

    private static void state(boolean bad) {
        if (bad) {
            throw new IllegalStateException();
        }
    }

    private static boolean off(int value, int low, int high) {
        return value < low || value > high;
    }

    private static int put(Model m, int place, int half, int power, int glass, boolean isLens) {
        out(off(place, 0, 99));
        wrong(off(half, 1, 20));
        wrong(isLens && (power == 0 || off(power, -50, 50) || off(glass, 0, 2)));
        state(m.pieces.size() == 8 || m.taken(place, -1));
        m.pieces.add(new Piece(place, half, isLens ? power : 0, isLens ? glass : -1));
        return m.pieces.size() - 1;
    }

    private static int change(Model m, int piece, Piece by, int told) {
        m.pieces.set(piece, by);
        return told;
    }

    private static Object answer(Call call) {
        try {
            Object got = call.answer();
            return got instanceof Double d ? (Object) (d == 0.0 && 1.0 / d < 0 ? "-0.0" : d) : got;
        } catch (RuntimeException e) {
            return "throws " + e.getClass().getSimpleName();
        }
    }

    private static double plain(double value) {
        return value + 0.0;
    }

    private static void compare(Check check, String call, Call real, Call due) {
        check.text(call, String.valueOf(answer(real)), String.valueOf(answer(due)));
    }

    private static void standing(Check check, Lensbench x, Model m) {
        int n = m.pieces.size();
        int p = from(0, Math.max(0, n - 1));
        int q = from(0, Math.max(0, n - 1));
        int place = from(0, 99);
        int half = below(3) == 0 ? from(1, 5) : from(10, 20);
        int power = below(3) == 0 ? from(-50, 50) : from(-12, 12);
        int glass = from(0, 2);
        switch (below(11)) {
            case 0, 1, 2 -> compare(check, "lens", () -> x.lens(place, half, power, glass),
                    () -> put(m, place, half, power, glass, true));
            case 3 -> compare(check, "stop", () -> x.stop(place, half), () -> put(m, place, half, 0, 0, false));
            case 4 -> compare(check, "take", () -> x.take(p), () -> {
                out(off(p, 0, n - 1));
                return m.pieces.remove(p).place();
            });
            case 5 -> compare(check, "move", () -> x.move(p, place), () -> {
                out(off(p, 0, n - 1) || off(place, 0, 99));
                state(m.taken(place, p));
                return change(m, p, m.pieces.get(p).at(place), m.pieces.get(p).place());
            });
            case 6 -> compare(check, "half", () -> x.half(p, half), () -> {
                out(off(p, 0, n - 1));
                wrong(off(half, 1, 20));
                Piece o = m.pieces.get(p);
                return change(m, p, new Piece(o.place(), half, o.power(), o.glass()), o.half());
            });
            case 7 -> compare(check, "swap", () -> x.swap(p, q), () -> {
                out(off(p, 0, n - 1) || off(q, 0, n - 1));
                int first = m.pieces.get(p).place();
                int second = m.pieces.get(q).place();
                m.pieces.set(p, m.pieces.get(p).at(second));
                m.pieces.set(q, m.pieces.get(q).at(p == q ? second : first));
                return second;
            });
            case 8 -> compare(check, "thing", () -> x.thing(place / 2), () -> {
                out(off(place / 2, 0, 99));
                state(place / 2 >= m.screen);
                int before = m.thing;
                m.thing = place / 2;
                return before;
            });
            case 9 -> compare(check, "screen", () -> x.screen(place), () -> {
                out(off(place, 0, 99));
                state(place <= m.thing);
                int before = m.screen;
                m.screen = place;
                return before;
            });
            default -> rest(check, x, m);
        }
    }

    private static void rest(Check check, Lensbench x, Model m) {
        if (below(3) == 0) {
            compare(check, "rattle", x::rattle, () -> ++m.refused);
            return;
        }
        int tall = below(2) == 0 ? from(0, 80) : from(0, 12);
        compare(check, "tall", () -> x.tall(tall), () -> {
            wrong(off(tall, 0, 80));
            int before = m.tall;
            m.tall = tall;
            return before;
        });
    }

    private static void asking(Check check, Lensbench x, Model m) {
        int n = m.pieces.size();
        int p = from(0, Math.max(0, n - 1));
        int colour = from(0, 2);
        int what = from(0, 4);
        int many = from(0, 9);
        int height = from(-80, 80);
        int slope = from(-100, 100) / (1 + below(5));
        switch (below(13)) {
            case 0 -> compare(check, "ofPiece", () -> x.ofPiece(p, what), () -> {
                out(off(p, 0, n - 1));
                wrong(off(what, 0, 4));
                Piece o = m.pieces.get(p);
                return new int[] {o.place(), o.half(), o.power(), o.glass(), m.train().indexOf(o)}[what];
            });
            case 1 -> compare(check, "strength", () -> x.strength(p, colour), () -> {
                out(off(p, 0, n - 1));
                wrong(off(colour, 0, 2));
                return m.pieces.get(p).bend(colour);
            });
            case 2 -> compare(check, "ray", () -> x.ray(height, slope, colour, what), () -> {
                wrong(off(height, -80, 80) || off(slope, -100, 100) || off(colour, 0, 2) || off(what, 0, 2));
                Path path = m.path(height / 4.0, slope / 100.0, colour);
                return plain(new double[] {path.h(), path.u(), path.cut()}[what]);
            });
            case 3 -> compare(check, "table", () -> x.table(colour, what), () -> {
                wrong(off(colour, 0, 2) || off(what, 0, 3));
                Abcd t = m.table(colour);
                return plain(new double[] {t.a(), t.b(), t.c(), t.d()}[what]);
            });
            case 4 -> compare(check, "image", () -> x.image(colour, what), () -> {
                wrong(off(colour, 0, 2) || off(what, 0, 4));
                return plain(m.image(colour, what));
            });
            case 5 -> compare(check, "many", () -> x.many(many), () -> {
                wrong(off(many, 0, 9));
                return m.many(many);
            });
            case 6 -> compare(check, "through", () -> x.through(p), () -> {
                out(off(p, 0, n - 1));
                return m.through(p);
            });
            case 7 -> compare(check, "rail", x::rail, m::rail);
            case 8 -> compare(check, "grasp", x::grasp, () -> plain(m.grasp()));
            case 9 -> compare(check, "blur", () -> x.blur(colour), () -> {
                wrong(off(colour, 0, 2));
                return plain(m.blur(colour));
            });
            case 10 -> compare(check, "apart", x::apart, () -> plain(m.apart()));
            default -> wouldBe(check, x, m, p, colour);
        }
    }

    private static void wouldBe(Check check, Lensbench x, Model m, int p, int colour) {
        int n = m.pieces.size();
        switch (below(3)) {
            case 0 -> compare(check, "sharp", () -> x.sharp(colour), () -> {
                wrong(off(colour, 0, 2));
                return m.sharp(colour);
            });
            case 1 -> compare(check, "best", () -> x.best(p, colour), () -> {
                out(off(p, 0, n - 1));
                wrong(off(colour, 0, 2));
                return m.best(p, colour);
            });
            default -> compare(check, "without", () -> x.without(p), () -> {
                out(off(p, 0, n - 1));
                return m.without(p);
            });
        }
    }

    public static void main(String[] args) {
        Check check = new Check("ModelTest");
        for (int run = 0; run < RUNS; run++) {
            Lensbench x = new Lensbench();
            Model m = new Model();
            for (int call = 0; call < CALLS; call++) {
                if (below(3) == 0) {
                    standing(check, x, m);
                } else {
                    asking(check, x, m);
                }
            }
        }
        check.end();
    }
}
