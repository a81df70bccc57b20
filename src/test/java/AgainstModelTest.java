import java.util.Random;

/** All promises: long runs of drawn calls on drawn villages, each answer held against the model's. */
public final class AgainstModelTest {
    /** Behind the 512th call of an object the document promises nothing. */
    private static final int RUNS = 6000, CALLS = 512;
    private static final int[] WILD = {Integer.MIN_VALUE, -100, -2, -1, 13, 61, 64, 100, 10000, Integer.MAX_VALUE};

    private final Random random;
    private final OlderByABlush real = new OlderByABlush();
    private final Model model = new Model();
    private final StringBuilder story = new StringBuilder();
    private int calls = 0;

    private AgainstModelTest(long seed) {
        random = new Random(seed);
    }

    public static void main(String[] args) {
        confessions();
        for (int run = 0; run < RUNS; run++) {
            new AgainstModelTest(run).play();
        }
        Check.end();
    }

    private static void confessions() {
        Model model = new Model();
        for (int u = -1; u <= 10; u++) {
            for (int c = -1; c <= 3; c++) {
                for (int chance = -1; chance <= 11; chance++) {
                    OlderByABlush x = new OlderByABlush();
                    for (int n = -1; n <= 13; n++) {
                        for (int what = 0; what < 3; what++) {
                            Check.due("confession " + u + " " + c + " " + chance + " " + n + " " + what,
                                    x.confession(u, c, chance, n, what), model.confession(u, c, chance, n, what));
                        }
                    }
                }
            }
        }
    }

    private void play() {
        if (random.nextInt(10) > 0) {
            layDrawn();
        }
        // so many calls one step of a run makes at most, but for a new text
        while (calls + 64 <= CALLS) {
            if (!call(random.nextInt(29))) {
                Check.due(story.toString(), 1, 0);
                return;
            }
        }
    }

    private boolean agree(String call, long got, long want) {
        calls++;
        story.append(call).append(got).append(got == want ? ";\n" : " BUT DUE IS " + want);
        return got == want;
    }

    private void layDrawn() {
        real.wipe();
        model.wipe();
        String text = random.nextInt(4) == 0 ? spoilt(drawnText()) : drawnText();
        for (char letter : text.toCharArray()) {
            real.write(letter);
            model.write(letter);
        }
        calls += text.length() + 1;
        story.append(text).append('\n');
    }

    private String drawnText() {
        StringBuilder text = new StringBuilder();
        int people = 1 + random.nextInt(6);
        int death = random.nextInt(3) == 0 ? 80 : 5 + random.nextInt(20);
        for (int i = 0; i < people; i++) {
            text.append('p').append(random.nextInt(Math.min(death, 61))).append(',').append(random.nextInt(5)).append(';');
        }
        int meetings = random.nextInt(14);
        for (int k = 0; k < meetings && people > 1; k++) {
            int i = random.nextInt(people);
            int j = (i + 1 + random.nextInt(people - 1)) % people;
            text.append('m').append(i).append(',').append(j).append(';');
        }
        int secrets = random.nextInt(9);
        for (int k = 0; k < secrets; k++) {
            int knowers = random.nextInt(64) & random.nextInt(64);
            text.append('s').append(random.nextInt(people)).append(',').append(knowers).append(';');
        }
        return death == 80 ? text.toString() : text.append('d').append(death).append(';').toString();
    }

    private String spoilt(String text) {
        String signs = "pmsd0123456789,; x";
        StringBuilder all = new StringBuilder(text);
        int at = random.nextInt(all.length());
        char sign = signs.charAt(random.nextInt(signs.length()));
        switch (random.nextInt(3)) {
            case 0:
                all.setCharAt(at, sign);
                break;
            case 1:
                all.insert(at, sign);
                break;
            default:
                all.deleteCharAt(at);
                break;
        }
        return all.toString();
    }

    /** Most often a number below n, now and then one that is none. */
    private int draw(int n) {
        return random.nextInt(25) == 0 ? WILD[random.nextInt(WILD.length)] : random.nextInt(n);
    }

    private int somebody() {
        return draw(random.nextInt(12) == 0 ? 8 : Math.max(1, model.count(0)));
    }

    private int something() {
        return draw(random.nextInt(12) == 0 ? 10 : Math.max(1, model.count(2)));
    }

    private int someSet(int i) {
        int met = model.person(i, 2);
        int set = met > 0 ? met & random.nextInt(64) : random.nextInt(64);
        return random.nextInt(15) == 0 ? draw(64) : set;
    }

    private boolean call(int which) {
        int i = somebody();
        int s = something();
        int what = draw(random.nextInt(8) == 0 ? 12 : 2);
        int n = draw(62);
        switch (which) {
            case 0: return villages(what);
            case 1: return random.nextInt(20) > 0 || agree("wipe ", real.wipe(), model.wipe());
            case 2: return agree("fault ", real.fault(), model.fault());
            case 3: return random.nextInt(6) > 0 || agree("lay ", real.lay(), model.lay());
            case 4: return persons();
            case 5: return secrets();
            case 6: case 7: case 8: return telling(i, s, someSet(i));
            case 9: return agree("day ", real.day(), model.day());
            case 10: return random.nextInt(2) > 0 || agree("undo ", real.undo(), model.undo());
            case 11: return agree("gossip " + n + " " + i + " " + what + ": ", real.gossip(n, i, what), model.gossip(n, i, what));
            case 12: return agree("first " + what + ": ", real.first(what), model.first(what));
            case 13: return agree("reach " + s + " " + i + ": ", real.reach(s, i), model.reach(s, i));
            case 14: return alls(i);
            case 15: return random.nextInt(20) > 0 || agree("apart " + s + " " + i + ": ", real.apart(s, i), model.apart(s, i));
            case 16: return agree("worth " + i + " " + s + ": ", real.worth(i, s), model.worth(i, s));
            case 17: return agree("witness " + i + " " + s + ": ", real.witness(i, s), model.witness(i, s));
            case 18: return random.nextInt(4) > 0 || agree("dismiss ", real.dismiss(), model.dismiss());
            case 19: return orders();
            case 20: return sights(i);
            case 21: return random.nextInt(4) > 0 || agree("forget ", real.forget(), model.forget());
            case 22: return agree("kinds " + i + ": ", real.kinds(i), model.kinds(i));
            case 23: return outs(i, what);
            case 24: return years(n, what);
            case 25: return agree("keep ", real.keep(), model.keep());
            case 26: return random.nextInt(3) > 0 || agree("back ", real.back(), model.back());
            default: return counts();
        }
    }

    private boolean villages(int what) {
        if (random.nextInt(12) == 0 && calls + 250 <= CALLS) {
            layDrawn();
            return agree("lay ", real.lay(), model.lay());
        }
        int letter = random.nextInt(20) == 0 ? what : 30 + random.nextInt(100);
        return random.nextInt(20) > 0 || agree("write " + letter + ": ", real.write(letter), model.write(letter));
    }

    private boolean persons() {
        for (int i = -1; i < 7; i++) {
            for (int what = -1; what < 7; what++) {
                if (!agree("person " + i + " " + what + ": ", real.person(i, what), model.person(i, what))) {
                    return false;
                }
            }
        }
        return true;
    }

    private boolean secrets() {
        for (int s = -1; s < 9; s++) {
            for (int what = -1; what < 3; what++) {
                if (!agree("secret " + s + " " + what + ": ", real.secret(s, what), model.secret(s, what))) {
                    return false;
                }
            }
        }
        return true;
    }

    private boolean counts() {
        for (int what = -1; what < 11; what++) {
            if (!agree("count " + what + ": ", real.count(what), model.count(what))) {
                return false;
            }
        }
        return true;
    }

    private boolean telling(int i, int s, int set) {
        return agree("tell " + i + " " + s + " " + set + ": ", real.tell(i, s, set), model.tell(i, s, set));
    }

    private boolean alls(int i) {
        int set = draw(random.nextInt(10) == 0 ? 600 : 1 << Math.max(0, model.count(2)));
        return agree("all " + set + " " + i + ": ", real.all(set, i), model.all(set, i));
    }

    private boolean orders() {
        for (int k = -2; k < 6; k++) {
            if (!agree("order " + k + ": ", real.order(k), model.order(k))) {
                return false;
            }
        }
        return true;
    }

    private boolean sights(int i) {
        int n = draw(11);
        int h = random.nextInt(3) > 0 ? Math.max(0, n - 2 * random.nextInt(2)) : draw(22);
        return agree("seen " + i + " " + n + " " + h + ": ", real.seen(i, n, h), model.seen(i, n, h));
    }

    private boolean outs(int i, int what) {
        int h = draw(random.nextInt(3) == 0 ? 101 : 20);
        return agree("out " + i + " " + h + " " + what + ": ", real.out(i, h, what), model.out(i, h, what));
    }

    private boolean years(int n, int what) {
        int z = draw(10001);
        return agree("year " + z + " " + n + " " + what + ": ", real.year(z, n, what), model.year(z, n, what));
    }
}
