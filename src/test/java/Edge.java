import java.lang.reflect.InvocationTargetException;
import java.lang.reflect.Method;
import java.lang.reflect.Modifier;
import java.util.Arrays;
import java.util.HashMap;
import java.util.Map;

/** The boundaries of one sentence of the document after the other: what is taken there and what is refused. */
final class Edge {
    static final int LEAST = Integer.MIN_VALUE;
    static final int MOST = Integer.MAX_VALUE;
    private static final int MOST_PIECES = 8;
    private static final Map<String, Method> FACE = face();

    /** Makes a bench; each call under test has one of its own. */
    interface Bench {
        Lensbench made();
    }

    private final Check check;
    private String sentence = "";
    private Bench bench = Lensbench::new;

    Edge(String test) {
        check = new Check(test);
    }

    /** The sentence that the next calls are about, and the bench on which each of them is made. */
    void says(String words, Bench on) {
        sentence = words;
        bench = on;
    }

    /** The call is taken and answers that; what it left behind is handed out. */
    Lensbench answers(Object due, String call, int... with) {
        Lensbench x = bench.made();
        shows(x, due, call, with);
        return x;
    }

    void shows(Lensbench x, Object due, String call, int... with) {
        check.same(sentence + " " + told(call, with), answer(x, call, with), due);
    }

    void holds(String what, boolean is) {
        check.same(sentence + " " + what, is, true);
    }

    void out(String call, int... with) {
        refuses("throws.IndexOutOfBoundsException", call, with);
    }

    void wrong(String call, int... with) {
        refuses("throws.IllegalArgumentException", call, with);
    }

    void state(String call, int... with) {
        refuses("throws.IllegalStateException", call, with);
    }

    private void refuses(String due, String call, int... with) {
        Lensbench x = bench.made();
        String before = standing(x);
        shows(x, due, call, with);
        check.text(sentence + " behind " + told(call, with), standing(x), before);
    }

    /** What is asked is answered, and then all stands as before. */
    void onlyAsks(String call, int... with) {
        Lensbench x = bench.made();
        String before = standing(x);
        String got = String.valueOf(answer(x, call, with));
        check.same(sentence + " " + told(call, with) + " throws", got.startsWith("throws."), false);
        check.text(sentence + " behind " + told(call, with), standing(x), before);
    }

    /** PLACE, HALF, POWER and GLASS of a PIECE. */
    void piece(Lensbench x, int piece, int... due) {
        for (int what = 0; what < due.length; what++) {
            shows(x, due[what], "ofPiece", piece, what);
        }
    }

    /** All that stands on the bench, in 52 calls: a run may have 512 of them. */
    static String standing(Lensbench x) {
        StringBuilder text = new StringBuilder();
        for (int what = 0; what <= 9; what++) {
            text.append(answer(x, "many", what)).append(' ');
        }
        for (int piece = 0; piece < MOST_PIECES; piece++) {
            for (int what = 0; what <= 4; what++) {
                text.append(answer(x, "ofPiece", piece, what)).append(' ');
            }
        }
        return text.append(answer(x, "rail")).append(' ').append(answer(x, "digest")).toString();
    }

    static Object answer(Lensbench x, String call, int... with) {
        Method method = FACE.get(call);
        Object[] taken = new Object[with.length];
        for (int i = 0; i < with.length; i++) {
            taken[i] = with[i];
        }
        if (method == null || method.getParameterCount() != taken.length) {
            throw new AssertionError("the face has no " + told(call, with));
        }
        try {
            return method.invoke(x, taken);
        } catch (InvocationTargetException e) {
            return "throws." + e.getCause().getClass().getSimpleName();
        } catch (IllegalAccessException e) {
            throw new AssertionError(e);
        }
    }

    private static Map<String, Method> face() {
        Map<String, Method> face = new HashMap<>();
        for (Method method : Lensbench.class.getDeclaredMethods()) {
            if (Modifier.isPublic(method.getModifiers())) {
                face.put(method.getName(), method);
            }
        }
        return face;
    }

    private static String told(String call, int... with) {
        return call + Arrays.toString(with).replace('[', '(').replace(']', ')');
    }

    void end() {
        check.end();
    }
}
