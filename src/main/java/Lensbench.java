/** An optical bench; ../shared/DOC.md says what each call does, answers and throws. */
public final class Lensbench {
    private static final int NONE = -1;
    private static final int LAST_PLACE = 99;
    private static final int MOST_PIECES = 8;
    private static final int MOST_HALF = 20;
    private static final int MOST_POWER = 50;
    private static final int LAST_GLASS = 2;
    private static final int MOST_TALL = 80;
    private static final int MOST_HEIGHT = 80;
    private static final int MOST_SLOPE = 100;
    private static final int RED = 0;
    private static final int GREEN = 1;
    private static final int BLUE = 2;
    private static final int FAN_EDGE = 10;

    private final int[] places;
    private final int[] halves;
    private final int[] powers;
    private final int[] glasses;
    private int count;
    private int thingPlace;
    private int screenPlace;
    private int quarters;
    private int refused;

    // Made once and filled anew by each call that needs them, so that no call makes objects.
    private final Train train;
    private final Ray single;
    private final Fan fan;
    private final Table bending;
    private final Opening opening;
    private final Choice choice;

    public Lensbench() {
        places = new int[MOST_PIECES];
        halves = new int[MOST_PIECES];
        powers = new int[MOST_PIECES];
        glasses = new int[MOST_PIECES];
        screenPlace = LAST_PLACE;
        quarters = 4;
        train = new Train();
        single = new Ray();
        fan = new Fan();
        bending = new Table();
        opening = new Opening();
        choice = new Choice();
    }

    // ---- what stands where.

    public int lens(int place, int half, int power, int glass)
            throws IndexOutOfBoundsException, IllegalArgumentException, IllegalStateException {
        needPlace(place);
        needHalf(half);
        if (power == 0 || power < -MOST_POWER || power > MOST_POWER) {
            throw new IllegalArgumentException("no such power");
        }
        if (glass < 0 || glass > LAST_GLASS) {
            throw new IllegalArgumentException("no such glass");
        }
        return put(place, half, power, glass);
    }

    public int stop(int place, int half)
            throws IndexOutOfBoundsException, IllegalArgumentException, IllegalStateException {
        needPlace(place);
        needHalf(half);
        return put(place, half, 0, NONE);
    }

    public int take(int piece) throws IndexOutOfBoundsException {
        needPiece(piece);
        int place = places[piece];
        for (int i = piece + 1; i < count; i++) {
            places[i - 1] = places[i];
            halves[i - 1] = halves[i];
            powers[i - 1] = powers[i];
            glasses[i - 1] = glasses[i];
        }
        count--;
        return place;
    }

    public int move(int piece, int place) throws IndexOutOfBoundsException, IllegalStateException {
        needPiece(piece);
        needPlace(place);
        if (isTakenByOther(place, piece)) {
            throw new IllegalStateException("another piece stands there");
        }
        int before = places[piece];
        places[piece] = place;
        return before;
    }

    public int half(int piece, int half) throws IndexOutOfBoundsException, IllegalArgumentException {
        needPiece(piece);
        needHalf(half);
        int before = halves[piece];
        halves[piece] = half;
        return before;
    }

    public int swap(int one, int other) throws IndexOutOfBoundsException {
        needPiece(one);
        needPiece(other);
        int before = places[one];
        places[one] = places[other];
        places[other] = before;
        return places[one];
    }

    public int thing(int place) throws IndexOutOfBoundsException, IllegalStateException {
        needPlace(place);
        if (place >= screenPlace) {
            throw new IllegalStateException("the screen is not behind the thing");
        }
        int before = thingPlace;
        thingPlace = place;
        return before;
    }

    public int screen(int place) throws IndexOutOfBoundsException, IllegalStateException {
        needPlace(place);
        if (place <= thingPlace) {
            throw new IllegalStateException("the screen is not behind the thing");
        }
        int before = screenPlace;
        screenPlace = place;
        return before;
    }

    public int tall(int quarters) throws IllegalArgumentException {
        if (quarters < 0 || quarters > MOST_TALL) {
            throw new IllegalArgumentException("no such height of the thing");
        }
        int before = this.quarters;
        this.quarters = quarters;
        return before;
    }

    public int rattle() {
        refused++;
        return refused;
    }

    // ---- what is asked.

    public int ofPiece(int piece, int what) throws IndexOutOfBoundsException, IllegalArgumentException {
        needPiece(piece);
        needWhat(what, 4);
        switch (what) {
            case 0:
                return places[piece];
            case 1:
                return halves[piece];
            case 2:
                return powers[piece];
            case 3:
                return glasses[piece];
            default:
                lineUp(GREEN);
                return train.positionOf(piece);
        }
    }

    public double strength(int piece, int colour) throws IndexOutOfBoundsException, IllegalArgumentException {
        needPiece(piece);
        needColour(colour);
        return plain(bendOf(powers[piece], glasses[piece], colour));
    }

    public double ray(int height, int slope, int colour, int what) throws IllegalArgumentException {
        if (height < -MOST_HEIGHT || height > MOST_HEIGHT) {
            throw new IllegalArgumentException("no such height of a ray");
        }
        if (slope < -MOST_SLOPE || slope > MOST_SLOPE) {
            throw new IllegalArgumentException("no such slope");
        }
        needColour(colour);
        needWhat(what, 2);
        lineUp(colour);
        single.run(train, height / 4.0, slope / 100.0);
        switch (what) {
            case 0:
                return plain(single.h);
            case 1:
                return plain(single.u);
            default:
                return train.numberAt(single.cutAt);
        }
    }

    public double table(int colour, int what) throws IllegalArgumentException {
        needColour(colour);
        needWhat(what, 3);
        layTable(colour);
        switch (what) {
            case 0:
                return plain(bending.a);
            case 1:
                return plain(bending.b);
            case 2:
                return plain(bending.c);
            default:
                return plain(bending.d);
        }
    }

    public double image(int colour, int what) throws IllegalArgumentException {
        needColour(colour);
        needWhat(what, 4);
        layTable(colour);
        if (what == 4) {
            return plain(bending.focus());
        }
        if (!bending.hasImage()) {
            return 0.0;
        }
        switch (what) {
            case 0:
                return 1.0;
            case 1:
                return plain(bending.back());
            case 2:
                return plain(bending.magnification());
            default:
                return bending.back() > 0.0 ? 1.0 : 0.0;
        }
    }

    public int many(int what) throws IllegalArgumentException {
        needWhat(what, 9);
        switch (what) {
            case 0:
                return count;
            case 1:
                return countLenses();
            case 2:
                lineUp(GREEN);
                return train.size;
            case 3:
                return thingPlace;
            case 4:
                return screenPlace;
            case 5:
                lineUp(GREEN);
                opening.seek(train, bending);
                return train.numberAt(opening.position);
            case 6:
                lineUp(GREEN);
                return sendFan();
            case 7:
                return refused;
            case 8:
                lineUp(GREEN);
                return train.lastPlace();
            default:
                return quarters;
        }
    }

    public int through(int piece) throws IndexOutOfBoundsException {
        needPiece(piece);
        lineUp(GREEN);
        int position = train.positionOf(piece);
        if (position == NONE) {
            return 0;
        }
        sendFan();
        return fan.passed(position);
    }

    public String rail() {
        lineUp(GREEN);
        StringBuilder text = new StringBuilder();
        text.append('T');
        for (int i = 0; i < train.size; i++) {
            text.append(signOf(powerOf(train.numbers[i])));
        }
        text.append('#');
        return text.toString();
    }

    public double grasp() {
        lineUp(GREEN);
        opening.seek(train, bending);
        return plain(opening.least);
    }

    public double blur(int colour) throws IllegalArgumentException {
        needColour(colour);
        lineUp(colour);
        sendFan();
        return plain(fan.spread());
    }

    public double apart() {
        layTable(RED);
        if (!bending.hasImage()) {
            return 0.0;
        }
        double red = bending.back();
        layTable(BLUE);
        if (!bending.hasImage()) {
            return 0.0;
        }
        return plain(bending.back() - red);
    }

    // ---- what would be (nothing is changed).

    public int sharp(int colour) throws IllegalArgumentException {
        needColour(colour);
        lineUp(colour);
        int first = train.lastPlace() + 1;
        choice.clear();
        for (int place = first; place <= LAST_PLACE; place++) {
            lineUpIf(colour, place, NONE, NONE);
            sendFan();
            choice.offer(place, fan);
        }
        return choice.place;
    }

    public int best(int piece, int colour) throws IndexOutOfBoundsException, IllegalArgumentException {
        needPiece(piece);
        needColour(colour);
        choice.clear();
        for (int place = thingPlace + 1; place < screenPlace; place++) {
            if (!isTakenByOther(place, piece)) {
                lineUpIf(colour, screenPlace, piece, place);
                sendFan();
                choice.offer(place, fan);
            }
        }
        return choice.place;
    }

    public int without(int piece) throws IndexOutOfBoundsException {
        needPiece(piece);
        lineUpIf(GREEN, screenPlace, piece, NONE);
        return sendFan();
    }

    public long digest() {
        long d = 58313L;
        for (int what = 0; what <= 9; what++) {
            d = addWhole(d, many(what));
        }
        for (int piece = 0; piece < count; piece++) {
            d = addPiece(d, piece);
        }
        for (int colour = RED; colour <= BLUE; colour++) {
            d = addColour(d, colour);
        }
        d = addDouble(d, grasp());
        d = addDouble(d, apart());
        d = addWhole(d, sharp(GREEN));
        for (int what = 0; what <= 2; what++) {
            d = addDouble(d, ray(4, 10, GREEN, what));
        }
        return d;
    }

    private long addPiece(long before, int piece) {
        long d = before;
        for (int what = 0; what <= 4; what++) {
            d = addWhole(d, ofPiece(piece, what));
        }
        for (int colour = RED; colour <= BLUE; colour++) {
            d = addDouble(d, strength(piece, colour));
        }
        d = addWhole(d, through(piece));
        return addWhole(d, without(piece));
    }

    private long addColour(long before, int colour) {
        long d = before;
        for (int what = 0; what <= 3; what++) {
            d = addDouble(d, table(colour, what));
        }
        for (int what = 0; what <= 4; what++) {
            d = addDouble(d, image(colour, what));
        }
        return addDouble(d, blur(colour));
    }

    private static long addWhole(long d, long value) {
        return d * 31L + value;
    }

    private static long addDouble(long d, double value) {
        return addWhole(d, (long) (4096.0 * value));
    }

    private static void needPlace(int place) {
        if (place < 0 || place > LAST_PLACE) {
            throw new IndexOutOfBoundsException("no such place");
        }
    }

    private static void needHalf(int half) {
        if (half < 1 || half > MOST_HALF) {
            throw new IllegalArgumentException("no such half");
        }
    }

    private static void needColour(int colour) {
        if (colour < RED || colour > BLUE) {
            throw new IllegalArgumentException("no such colour");
        }
    }

    private static void needWhat(int what, int last) {
        if (what < 0 || what > last) {
            throw new IllegalArgumentException("nothing of that number is told");
        }
    }

    private void needPiece(int piece) {
        if (!isPiece(piece)) {
            throw new IndexOutOfBoundsException("no such piece");
        }
    }

    private boolean isPiece(int piece) {
        return piece >= 0 && piece < count && piece < MOST_PIECES;
    }

    private int put(int place, int half, int power, int glass) {
        if (count >= MOST_PIECES) {
            throw new IllegalStateException("there are eight pieces");
        }
        if (isTakenByOther(place, NONE)) {
            throw new IllegalStateException("a piece stands there");
        }
        places[count] = place;
        halves[count] = half;
        powers[count] = power;
        glasses[count] = glass;
        count++;
        return count - 1;
    }

    private boolean isTakenByOther(int place, int piece) {
        for (int i = 0; i < count; i++) {
            if (i != piece && places[i] == place) {
                return true;
            }
        }
        return false;
    }

    private int countLenses() {
        int lenses = 0;
        for (int i = 0; i < count; i++) {
            if (powers[i] != 0) {
                lenses++;
            }
        }
        return lenses;
    }

    private int powerOf(int piece) {
        return isPiece(piece) ? powers[piece] : 0;
    }

    private static char signOf(int power) {
        if (power == 0) {
            return '|';
        }
        return power > 0 ? '(' : ')';
    }

    private static double bendOf(int power, int glass, int colour) {
        if (power == 0) {
            return 0.0;
        }
        double spread = glass == 1 ? 0.02 : glass == 2 ? 0.05 : 0.0;
        return power / 100.0 * (1.0 + (colour - 1) * spread);
    }

    private void lineUp(int colour) {
        lineUpIf(colour, screenPlace, NONE, NONE);
    }

    /** The train if the screen stood at screenAt and the piece at pieceAt (NONE: if it was not there). */
    private void lineUpIf(int colour, int screenAt, int piece, int pieceAt) {
        train.clear(thingPlace, screenAt);
        for (int i = 0; i < count; i++) {
            int place = i == piece ? pieceAt : places[i];
            train.join(i, place, halves[i], bendOf(powers[i], glasses[i], colour));
        }
    }

    private void layTable(int colour) {
        lineUp(colour);
        bending.lay(train);
    }

    private int sendFan() {
        fan.send(train, quarters / 4.0);
        return fan.came;
    }

    private static double plain(double value) {
        return value == 0.0 ? 0.0 : value;
    }

    private static double unsigned(double value) {
        return value < 0.0 ? -value : value;
    }

    private static boolean isTiny(double value) {
        return unsigned(value) < 0.000001;
    }

    /** The pieces between thing and screen, in their order along the rail, as one colour meets them. */
    private static final class Train {
        final int[] numbers;
        final int[] places;
        final int[] halves;
        final double[] bends;
        int size;
        int start;
        int end;

        Train() {
            numbers = new int[MOST_PIECES];
            places = new int[MOST_PIECES];
            halves = new int[MOST_PIECES];
            bends = new double[MOST_PIECES];
        }

        void clear(int thingAt, int screenAt) {
            size = 0;
            start = thingAt;
            end = screenAt;
        }

        void join(int number, int place, int half, double bend) {
            if (place <= start || place >= end || size >= MOST_PIECES) {
                return;
            }
            int at = size;
            while (at > 0 && places[at - 1] > place) {
                numbers[at] = numbers[at - 1];
                places[at] = places[at - 1];
                halves[at] = halves[at - 1];
                bends[at] = bends[at - 1];
                at--;
            }
            numbers[at] = number;
            places[at] = place;
            halves[at] = half;
            bends[at] = bend;
            size++;
        }

        int positionOf(int number) {
            for (int i = 0; i < size; i++) {
                if (numbers[i] == number) {
                    return i;
                }
            }
            return NONE;
        }

        int numberAt(int position) {
            return position >= 0 && position < size ? numbers[position] : NONE;
        }

        int lastPlace() {
            return size > 0 ? places[size - 1] : start;
        }
    }

    private static final class Ray {
        double h;
        double u;
        int cutAt;

        void run(Train train, double height, double slope) {
            h = height;
            u = slope;
            cutAt = NONE;
            int here = train.start;
            for (int i = 0; i < train.size; i++) {
                h = h + u * (train.places[i] - here);
                here = train.places[i];
                if (unsigned(h) > train.halves[i]) {
                    cutAt = i;
                    return;
                }
                // A stop needs no case of its own: its bend is 0.0, which leaves u as it is.
                u = u - h * train.bends[i];
            }
            h = h + u * (train.end - here);
        }
    }

    private static final class Fan {
        final Ray ray;
        final int[] cuts;
        int came;
        double lowest;
        double highest;

        Fan() {
            ray = new Ray();
            cuts = new int[MOST_PIECES];
        }

        void send(Train train, double top) {
            came = 0;
            for (int i = 0; i < MOST_PIECES; i++) {
                cuts[i] = 0;
            }
            for (int k = -FAN_EDGE; k <= FAN_EDGE; k++) {
                ray.run(train, top, k / 50.0);
                if (ray.cutAt >= 0 && ray.cutAt < MOST_PIECES) {
                    cuts[ray.cutAt]++;
                } else {
                    arrive(ray.h);
                }
            }
        }

        private void arrive(double height) {
            if (came == 0 || height < lowest) {
                lowest = height;
            }
            if (came == 0 || height > highest) {
                highest = height;
            }
            came++;
        }

        int passed(int position) {
            int left = 2 * FAN_EDGE + 1;
            for (int i = 0; i <= position && i < MOST_PIECES; i++) {
                left -= cuts[i];
            }
            return left;
        }

        double spread() {
            return came == 0 ? 0.0 : highest - lowest;
        }
    }

    private static final class Table {
        double a;
        double b;
        double c;
        double d;

        void clear() {
            a = 1.0;
            b = 0.0;
            c = 0.0;
            d = 1.0;
        }

        void lay(Train train) {
            clear();
            int here = train.start;
            for (int i = 0; i < train.size; i++) {
                goOn(train.places[i] - here);
                here = train.places[i];
                bend(train.bends[i]);
            }
        }

        void goOn(int distance) {
            a = a + c * distance;
            b = b + d * distance;
        }

        void bend(double strength) {
            c = c - a * strength;
            d = d - b * strength;
        }

        boolean hasImage() {
            return !isTiny(d);
        }

        double back() {
            return isTiny(d) ? 0.0 : -(b / d);
        }

        double magnification() {
            return a + c * back();
        }

        double focus() {
            return isTiny(c) ? 0.0 : -(1.0 / c);
        }
    }

    private static final class Opening {
        int position;
        double least;

        void seek(Train train, Table green) {
            position = NONE;
            least = 0.0;
            green.clear();
            int here = train.start;
            for (int i = 0; i < train.size; i++) {
                green.goOn(train.places[i] - here);
                here = train.places[i];
                weigh(i, train.halves[i], unsigned(green.b));
                green.bend(train.bends[i]);
            }
        }

        private void weigh(int at, int half, double b) {
            if (b < 0.000001) {
                return;
            }
            double ratio = half / b;
            if (position == NONE || ratio < least) {
                position = at;
                least = ratio;
            }
        }
    }

    /** The place at which the fan is least blurred, of all that are offered; the first one of several. */
    private static final class Choice {
        int place;
        private double least;

        void clear() {
            place = NONE;
            least = 0.0;
        }

        void offer(int candidate, Fan fan) {
            if (fan.came == 0) {
                return;
            }
            double spread = fan.spread();
            if (place == NONE || spread < least) {
                place = candidate;
                least = spread;
            }
        }
    }
}
