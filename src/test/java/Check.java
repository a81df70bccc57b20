import java.util.function.Supplier;
import java.util.function.ToLongFunction;

/** What every test here needs: to say what is due, and to make a village from a text. */
final class Check {
    static final String FIRST_VILLAGE =
            "p20,0;p5,1;p30,2;p8,4;p12,3;m0,1;m1,2;m2,3;m0,3;m3,4;s0,0;s1,1;s2,0;s4,8;s0,16;";

    private static int wrong = 0;
    private static String sentence = "";

    private Check() {
    }

    /** The words of the document that the checks behind this call hold the class to. */
    static void sentence(String words) {
        sentence = "\"" + words + "\": ";
    }

    static void due(String call, long got, long want) {
        if (got != want) {
            wrong++;
            System.out.println(sentence + call + " answered " + got + ", due is " + want);
        }
    }

    static void write(OlderByABlush x, String text) {
        for (char letter : text.toCharArray()) {
            x.write(letter);
        }
    }

    /** A new object with the text laid; the answer of lay is looked at, too. */
    static OlderByABlush laid(String text, int people) {
        OlderByABlush x = new OlderByABlush();
        write(x, text);
        due("fault of " + text, x.fault(), OlderByABlush.NONE);
        due("lay of " + text, x.lay(), people);
        return x;
    }

    /** All that the calls can show of a standing, by 75 calls, so that two can be told apart. */
    static String state(OlderByABlush x) {
        StringBuilder all = new StringBuilder();
        for (int what = 0; what < 10; what++) {
            all.append(x.count(what)).append(' ');
        }
        for (int i = 0; i < 6; i++) {
            for (int what = 0; what < 6; what++) {
                all.append(x.person(i, what)).append(' ');
            }
            all.append(x.kinds(i)).append(' ');
        }
        for (int s = 0; s < 8; s++) {
            all.append(x.secret(s, 0)).append(' ').append(x.secret(s, 1)).append(' ');
        }
        for (int k = -1; k < 5; k++) {
            all.append(x.order(k)).append(' ');
        }
        return all.append(x.fault()).toString();
    }

    /** What a telling or a day changes, by 15 calls. */
    static String standing(OlderByABlush x) {
        StringBuilder all = new StringBuilder();
        for (int i = 0; i < 6; i++) {
            all.append(x.person(i, 0)).append(' ');
        }
        for (int s = 0; s < 8; s++) {
            all.append(x.secret(s, 1)).append(' ');
        }
        return all.append(x.count(4)).toString();
    }

    /** What can be undone and what is kept, taken off one by one: 192 calls at most. */
    static String history(OlderByABlush x) {
        StringBuilder all = new StringBuilder();
        for (int left = 0; left >= 0;) {
            left = x.undo();
            all.append(left).append(": ").append(standing(x)).append('\n');
        }
        for (int left = 0; left >= 0;) {
            left = x.back();
            all.append(left).append(": ").append(standing(x)).append('\n');
        }
        return all.toString();
    }

    /** A call that is refused on such an object, and changes nothing. */
    static void refused(String call, Supplier<OlderByABlush> start, ToLongFunction<OlderByABlush> refusal, long want) {
        due(call, refusal.applyAsLong(start.get()), want);
        unchanged(call, start, refusal);
    }

    /**
     * A call changes nothing of such an object: neither what is shown, nor what the text lays, nor what can be
     * undone or is kept. Two objects, so that neither comes to its 512th call.
     */
    static void unchanged(String call, Supplier<OlderByABlush> start, ToLongFunction<OlderByABlush> question) {
        OlderByABlush shown = start.get();
        question.applyAsLong(shown);
        same(call + " changes nothing", stateAndText(shown), stateAndText(start.get()));
        OlderByABlush past = start.get();
        question.applyAsLong(past);
        same(call + " changes nothing of what was", history(past), history(start.get()));
    }

    private static String stateAndText(OlderByABlush x) {
        return state(x) + " " + x.lay() + " " + state(x);
    }

    static void same(String what, String got, String want) {
        if (!got.equals(want)) {
            wrong++;
            System.out.println(sentence + what + ": is " + got + ", due is " + want);
        }
    }

    static void end() {
        System.out.println(wrong == 0 ? "all answers are as due" : wrong + " answers are not as due");
        if (wrong != 0) {
            System.exit(1);
        }
    }
}
