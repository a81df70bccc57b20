/** What every test here needs: to say what is due, and to make a village from a text. */
final class Check {
    private static int wrong = 0;

    private Check() {
    }

    static void due(String call, long got, long want) {
        if (got != want) {
            wrong++;
            System.out.println(call + " answered " + got + ", due is " + want);
        }
    }

    static void write(OlderByABlush x, String text) {
        for (char letter : text.toCharArray()) {
            x.write(letter);
        }
    }

    /** A new object with the text laid; the answer of lay is looked at, too. */
    static OlderByABlush laid(String text, int people) {
        OlderByABlush x = new OlderByABlush();
        write(x, text);
        due("fault of " + text, x.fault(), OlderByABlush.NONE);
        due("lay of " + text, x.lay(), people);
        return x;
    }

    /** All that the calls can show of a standing, so that two can be told apart. */
    static String state(OlderByABlush x) {
        StringBuilder all = new StringBuilder();
        for (int what = 0; what < 10; what++) {
            all.append(x.count(what)).append(' ');
        }
        for (int i = 0; i < 6; i++) {
            for (int what = 0; what < 6; what++) {
                all.append(x.person(i, what)).append(' ');
            }
            all.append(x.kinds(i)).append(' ');
        }
        for (int s = 0; s < 8; s++) {
            all.append(x.secret(s, 0)).append(' ').append(x.secret(s, 1)).append(' ');
        }
        for (int k = -1; k < 5; k++) {
            all.append(x.order(k)).append(' ');
        }
        return all.append(x.fault()).toString();
    }

    static void same(String what, String got, String want) {
        if (!got.equals(want)) {
            wrong++;
            System.out.println(what + ": is " + got + ", due is " + want);
        }
    }

    static void end() {
        System.out.println(wrong == 0 ? "all answers are as due" : wrong + " answers are not as due");
        if (wrong != 0) {
            System.exit(1);
        }
    }
}
