import java.util.Arrays;
import java.util.function.Supplier;
import java.util.function.ToLongFunction;

/**
 * "Promise 1" to "Promise 28": what each call refuses, on both sides of each bound, on an object on which nothing
 * has happened and on one on which all is full and one is dead; and that a refused call changes nothing.
 */
public final class CallBoundsTest {
    private static final int BAD = OlderByABlush.BAD, NO = OlderByABlush.NO;
    private static final int FULL = OlderByABlush.FULL, NONE = OlderByABlush.NONE;

    /** 200 letters: six persons, of whom 5 meets nobody, and eight secrets. */
    private static final String LONG = "p06,1;p00,0;p0,4;p0,3;p0,0;p0,2;m0,1;m0,2;m1,2;m2,3;m3,4;"
            + "s0,0;s1,0;s2,0;s3,0;s4,0;s5,0;s0,2;s3,6;d8;" + "m0,1;".repeat(20);

    private interface Numbers {
        long on(OlderByABlush x, int... a);
    }

    /** A call, and the lowest and the highest that each of its numbers can be. */
    private static final class Call {
        final String name;
        final Numbers numbers;
        final int[] low;
        final int[] high;

        Call(String name, Numbers numbers, int... bounds) {
            this.name = name;
            this.numbers = numbers;
            low = new int[bounds.length / 2];
            high = new int[bounds.length / 2];
            for (int k = 0; k < low.length; k++) {
                low[k] = bounds[2 * k];
                high[k] = bounds[2 * k + 1];
            }
        }

        String with(int[] a) {
            return name + Arrays.toString(a);
        }
    }

    public static void main(String[] args) {
        startsAreAsMeant();
        boundsOfNumbers(CallBoundsTest::fresh, calls(5, 5, 0));
        boundsOfNumbers(CallBoundsTest::full, calls(6, 8, 5));
        boundsOfNumbers(CallBoundsTest::least, calls(1, 0, 0));
        questionsChangeNothing();
        letters();
        wiping();
        faults();
        laying();
        persons();
        secrets();
        tellingSets();
        tellingNotKnown();
        days();
        undoing();
        firstDead();
        reaching();
        allOfThem();
        parting();
        worths();
        witnesses();
        dismissing();
        confessions();
        sights();
        forgetting();
        outs();
        keeping();
        counts();
        Check.end();
    }

    private static OlderByABlush fresh() {
        return new OlderByABlush();
    }

    /** One person, no secrets. */
    private static OlderByABlush least() {
        OlderByABlush x = new OlderByABlush();
        Check.write(x, "p0,0;");
        x.lay();
        return x;
    }

    /** All that can be full is full, more has been done than can be undone, 0 is dead. */
    private static OlderByABlush full() {
        OlderByABlush x = new OlderByABlush();
        Check.write(x, LONG);
        x.lay();
        x.keep();
        x.tell(0, 0, 6);
        x.day();
        x.tell(1, 1, 4);
        x.day();
        x.keep();
        x.day();
        x.tell(4, 4, 8);
        for (int k = 0; k < 4; k++) {
            x.day();
        }
        for (int i = 1; i <= 5; i++) {
            x.witness(i, i);
        }
        for (int k = 0; k < 6; k++) {
            x.seen(k, k, k);
        }
        return x;
    }

    private static void startsAreAsMeant() {
        Check.sentence("the objects of these tests");
        int[] full = {6, 5, 8, 8, 7, 5, 6, 8, 2, 200};
        int[] least = {1, 1, 0, 80, 0, 0, 0, 0, 0, 5};
        for (int what = 0; what < full.length; what++) {
            Check.due("full " + what, full().count(what), full[what]);
            Check.due("least " + what, least().count(what), least[what]);
        }
        Check.due("0 is dead", full().person(0, 5), 0);
    }

    private static Call[] calls(int people, int secrets, int witnesses) {
        int p = people - 1;
        int s = secrets - 1;
        return new Call[] {
            new Call("Promise 2: write", (x, a) -> x.write(a[0]), 32, 126),
            new Call("Promise 6: person", (x, a) -> x.person(a[0], a[1]), 0, p, 0, 5),
            new Call("Promise 7: secret", (x, a) -> x.secret(a[0], a[1]), 0, s, 0, 1),
            new Call("Promise 11: gossip", (x, a) -> x.gossip(a[0], a[1], a[2]), 0, 60, 0, p, 0, 1),
            new Call("Promise 12: first", (x, a) -> x.first(a[0]), 0, 1),
            new Call("Promise 13: reach", (x, a) -> x.reach(a[0], a[1]), 0, s, 0, p),
            new Call("Promise 14: all", (x, a) -> x.all(a[0], a[1]), 0, (1 << secrets) - 1, 0, p),
            new Call("Promise 15: apart", (x, a) -> x.apart(a[0], a[1]), 0, s, 0, p),
            new Call("Promise 16: worth", (x, a) -> x.worth(a[0], a[1]), 0, p, 0, s),
            new Call("Promise 17: witness", (x, a) -> x.witness(a[0], a[1]), 0, p, 0, s),
            new Call("Promise 19: order", (x, a) -> x.order(a[0]), -1, witnesses - 1),
            new Call("Promise 20: confession", (x, a) -> x.confession(a[0], a[1], a[2], a[3], a[4]),
                    0, 9, 0, 2, 0, 10, 0, 12, 0, 2),
            new Call("Promise 21: seen", (x, a) -> x.seen(a[0], a[1], a[2]), 0, p, 0, 9, 0, 20),
            new Call("Promise 23: kinds", (x, a) -> x.kinds(a[0]), 0, p),
            new Call("Promise 24: out", (x, a) -> x.out(a[0], a[1], a[2]), 0, p, 0, 99, 0, 1),
            new Call("Promise 25: year", (x, a) -> x.year(a[0], a[1], a[2]), 0, 9999, 1, 60, 0, 1),
            new Call("Promise 28: count", (x, a) -> x.count(a[0]), 0, 9),
        };
    }

    private static void boundsOfNumbers(Supplier<OlderByABlush> start, Call[] calls) {
        for (Call call : calls) {
            Check.sentence("BAD: a number is none that is told (PERSONS, SECRETS: such as there are)");
            boolean some = true;
            for (int k = 0; k < call.low.length; k++) {
                some &= call.low[k] <= call.high[k];
                outsideOne(start, call, k);
            }
            for (int edges = 0; some && edges < 1 << call.low.length; edges++) {
                int[] a = edges(call, edges);
                long got = call.numbers.on(start.get(), a);
                Check.due(call.with(a) + " is let", got == BAD ? 1 : 0, 0);
            }
        }
    }

    private static int[] edges(Call call, int edges) {
        int[] a = new int[call.low.length];
        for (int k = 0; k < a.length; k++) {
            a[k] = (edges >> k & 1) == 0 ? call.low[k] : call.high[k];
        }
        return a;
    }

    /** The number at place k is just or far outside, the others are at the lowest, at the highest, outside. */
    private static void outsideOne(Supplier<OlderByABlush> start, Call call, int k) {
        int[] outside = {call.low[k] - 1, call.high[k] + 1, Integer.MIN_VALUE, Integer.MAX_VALUE};
        for (int number : outside) {
            int[] low = call.low.clone();
            low[k] = number;
            Check.refused(call.with(low), start, x -> call.numbers.on(x, low), BAD);
            int[] high = call.high.clone();
            high[k] = number;
            Check.due(call.with(high), call.numbers.on(start.get(), high), BAD);
            int[] all = new int[call.low.length];
            for (int j = 0; j < all.length; j++) {
                all[j] = j == k ? number : call.high[j] + 1;
            }
            Check.due(call.with(all), call.numbers.on(start.get(), all), BAD);
        }
    }

    private static void questionsChangeNothing() {
        Check.sentence("what only asks changes nothing");
        for (Call call : calls(6, 8, 5)) {
            for (int edges = 0; edges < 1 << call.low.length; edges++) {
                // on the full object write, witness and seen are FULL
                int[] a = edges(call, edges);
                Check.unchanged(call.with(a), CallBoundsTest::full, x -> call.numbers.on(x, a));
            }
        }
        Check.unchanged("fault", CallBoundsTest::full, OlderByABlush::fault);
    }

    private static void refusedFull(String call, ToLongFunction<OlderByABlush> refusal, long want) {
        Check.refused(call, CallBoundsTest::full, refusal, want);
    }

    private static void refusedFresh(String call, ToLongFunction<OlderByABlush> refusal, long want) {
        Check.refused(call, CallBoundsTest::fresh, refusal, want);
    }

    private static void letters() {
        Check.sentence("Promise 2: A letter (32 to 126, as in ASCII) comes behind THE TEXT: how long it is. BAD; FULL.");
        for (int letter = -200; letter <= 400; letter++) {
            boolean let = letter >= 32 && letter <= 126;
            Check.due("write " + letter, fresh().write(letter), let ? 1 : BAD);
        }
        refusedFull("a letter more", x -> x.write(';'), FULL);
        refusedFull("the lowest letter more", x -> x.write(32), FULL);
        refusedFull("the highest letter more", x -> x.write(126), FULL);
        refusedFull("none that is told, BAD ahead of FULL", x -> x.write(31), BAD);
        refusedFull("none that is told above, BAD ahead of FULL", x -> x.write(127), BAD);
        // a number that is a letter in its low bits is none
        refusedFresh("256 and p", x -> x.write(256 + 'p'), BAD);
        refusedFresh("65536 and p", x -> x.write(65536 + 'p'), BAD);
    }

    private static void wiping() {
        Check.sentence("Promise 3: THE TEXT is empty: how long it was.");
        Check.due("of an empty one", fresh().wipe(), 0);
        OlderByABlush x = full();
        Check.due("of a full one", x.wipe(), 200);
        Check.due("none is left", x.count(9), 0);
        Check.due("again", x.wipe(), 0);
        Check.same("all else stays", Check.history(x), Check.history(full()));
        OlderByABlush y = full();
        y.wipe();
        Check.write(y, LONG);
        Check.same("written again all is as it was", Check.state(y), Check.state(full()));
    }

    private static void faults() {
        Check.sentence("Promise 4: FAULT. NONE.");
        Check.due("of an empty text", fresh().fault(), NONE);
        Check.due("of a full one", full().fault(), NONE);
        OlderByABlush x = fresh();
        x.write('p');
        Check.due("of a letter", x.fault(), 0);
        Check.write(x, "1,0;");
        Check.due("of an item", x.fault(), NONE);
        x.write('p');
        Check.due("of a letter more", x.fault(), 5);
    }

    private static void laying() {
        Check.sentence("Promise 5: LAID: how many PERSONS; DAY 0, no WITNESSES, nothing SEEN, UNDONE, KEPT; THE TEXT stays. NO.");
        refusedFresh("an empty text", OlderByABlush::lay, NO);
        Check.refused("a fault in it", () -> {
            OlderByABlush x = full();
            x.wipe();
            Check.write(x, "p1,0;x");
            return x;
        }, OlderByABlush::lay, NO);
        OlderByABlush x = full();
        Check.due("laid again", x.lay(), 6);
        OlderByABlush laid = Check.laid(LONG, 6);
        Check.same("as laid at first", Check.state(x), Check.state(laid));
        int[] none = {0, 0, 0, 0, 0, 200};
        for (int what = 4; what <= 9; what++) {
            Check.due("count " + what, x.count(what), none[what - 4]);
        }
        OlderByABlush y = full();
        y.lay();
        Check.same("nothing is undone or kept", Check.history(y), Check.history(Check.laid(LONG, 6)));
        Check.due("of one person", least().lay(), 1);
    }

    private static void persons() {
        Check.sentence("Promise 6: AGE (what = 0), KIND (1), whom he MEETS now (2), SECRETS that he knows (3), "
                + "SECRETS of his (4), 1 if he is alive (5). BAD.");
        int[][] atFirst = {{20, 0, 10, 17 + 2, 17, 1}, {5, 1, 5, 2, 2, 1}, {30, 2, 10, 4, 4, 1}, {8, 4, 21, 8, 0, 1},
            {12, 3, 8, 8 + 16, 8, 1}};
        for (int i = -1; i <= 5; i++) {
            for (int what = -1; what <= 6; what++) {
                boolean let = i >= 0 && i < 5 && what >= 0 && what < 6;
                Check.due("person " + i + " " + what, fresh().person(i, what), let ? atFirst[i][what] : BAD);
            }
        }
        // the dead, one who meets nobody, one of whom nothing is told
        int[] dead = {8, 1, 0, full().person(0, 3), 1 + 64, 0};
        int[] alone = {0, 2, 0, 32, 32, 1};
        int[] least = {0, 0, 0, 0, 0, 1};
        for (int what = 0; what < 6; what++) {
            Check.due("the dead " + what, full().person(0, what), dead[what]);
            Check.due("the one alone " + what, full().person(5, what), alone[what]);
            Check.due("the least " + what, least().person(0, what), least[what]);
        }
        Check.due("the dead knows his own", full().person(0, 3) & 65, 65);
    }

    private static void secrets() {
        Check.sentence("Promise 7: whose it is (what = 0), who knows it, as bits (1; of PERSONS there are). BAD.");
        int[][] atFirst = {{0, 1}, {1, 3}, {2, 4}, {4, 24}, {0, 17}};
        for (int s = -1; s <= 5; s++) {
            for (int what = -1; what <= 2; what++) {
                boolean let = s >= 0 && s < 5 && what >= 0 && what < 2;
                Check.due("secret " + s + " " + what, fresh().secret(s, what), let ? atFirst[s][what] : BAD);
            }
        }
        Check.due("the eighth", full().secret(7, 0), 3);
        Check.due("a ninth", full().secret(8, 0), BAD);
        Check.due("of none", least().secret(0, 0), BAD);
    }

    private static void days() {
        Check.sentence("Promise 9: A DAY of GOSSIP: how often a SECRET was learnt.");
        OlderByABlush x = fresh();
        int learnt = x.day();
        int known = 0;
        for (int s = 0; s < 5; s++) {
            known += Integer.bitCount(x.secret(s, 1)) - Integer.bitCount(fresh().secret(s, 1));
        }
        Check.due("as many as know more", learnt, known);
        Check.due("one day", x.count(4), 1);
        Check.due("that can be undone", x.count(7), 1);
        Check.due("nothing to learn", least().day(), 0);
        OlderByABlush full = full();
        Check.due("on a full one nothing is left to learn", full.day(), 0);
        Check.due("the day is over", full.count(4), 8);
        Check.due("still 8 can be undone", full.count(7), 8);
    }

    private static void tellingSets() {
        Check.sentence("Promise 8: BAD (0, and any in it whom he does not MEET: so always of a dead one; "
                + "those who know it are let, and learn nothing)");
        int met = fresh().person(0, 2);
        for (int set = -70; set <= 70; set++) {
            boolean bad = set == 0 || (set & ~met) != 0;
            Check.due("before " + set, fresh().tell(0, 0, set) == BAD ? 1 : 0, bad ? 1 : 0);
        }
        int[] wrong = {0, 1, 4, 16, 32, 64, 2 + 4, 2 + 8 + 32, 1 << 30, -1, Integer.MIN_VALUE, Integer.MAX_VALUE,
            Integer.MIN_VALUE + 2};
        for (int set : wrong) {
            refusedFresh("before " + set, x -> x.tell(0, 0, set), BAD);
        }
        for (int set = 0; set < 64; set++) {
            Check.due("of a dead one before " + set, full().tell(0, 0, set), BAD);
        }
        refusedFull("of a dead one", x -> x.tell(0, 0, 2), BAD);
        refusedFull("before a dead one", x -> x.tell(1, 1, 1), BAD);
        refusedFull("before a dead one and another", x -> x.tell(1, 1, 5), BAD);
        refusedFull("of one who meets nobody", x -> x.tell(5, 5, 1), BAD);
        int[][] numbers = {{-1, 0}, {5, 0}, {0, -1}, {0, 5}, {Integer.MIN_VALUE, 0}, {0, Integer.MAX_VALUE}};
        for (int[] a : numbers) {
            refusedFresh("by " + a[0] + " of " + a[1], x -> x.tell(a[0], a[1], 2), BAD);
        }
        refusedFull("by a seventh", x -> x.tell(6, 0, 2), BAD);
        refusedFull("a ninth", x -> x.tell(1, 8, 4), BAD);
        Check.due("before one who knows it", fresh().tell(0, 1, 2), 0);
        Check.due("before one who knows it and another", fresh().tell(0, 1, 10), 1);
        Check.refused("no secrets at all", CallBoundsTest::least, x -> x.tell(0, 0, 1), BAD);
    }

    private static void tellingNotKnown() {
        Check.sentence("Promise 8: NO: he does not know it.");
        refusedFresh("he does not know it", x -> x.tell(2, 0, 2), NO);
        refusedFull("he does not know it, on a full one", x -> x.tell(4, 5, 8), NO);
        refusedFresh("no set, BAD ahead of NO", x -> x.tell(2, 0, 0), BAD);
        refusedFresh("one whom he does not meet, BAD ahead of NO", x -> x.tell(2, 0, 1), BAD);
        refusedFresh("himself, BAD ahead of NO", x -> x.tell(2, 0, 4), BAD);
        refusedFull("of a dead one, BAD ahead of NO", x -> x.tell(0, 5, 2), BAD);
    }

    private static void undoing() {
        Check.sentence("Promise 10: UNDONE: how many more can be. NO.");
        refusedFresh("nothing", OlderByABlush::undo, NO);
        OlderByABlush x = full();
        for (int left = 7; left >= 0; left--) {
            Check.due("undone", x.undo(), left);
            Check.due("as many are left", x.count(7), left);
        }
        Check.refused("no ninth", () -> {
            OlderByABlush y = full();
            for (int k = 0; k < 8; k++) {
                y.undo();
            }
            return y;
        }, OlderByABlush::undo, NO);
    }

    private static void firstDead() {
        Check.sentence("Promise 12: FIRST: who (what = 0), the DAY (1). NONE; BAD.");
        refusedFresh("who: none", x -> x.first(0), NONE);
        refusedFresh("the day: none", x -> x.first(1), NONE);
        refusedFresh("BAD ahead of NONE", x -> x.first(2), BAD);
        refusedFresh("BAD below, ahead of NONE", x -> x.first(-1), BAD);
    }

    private static void reaching() {
        Check.sentence("Promise 13: REACH. NONE; BAD; NO: he is dead.");
        refusedFull("to 5, whom nobody meets", x -> x.reach(1, 5), NONE);
        refusedFull("to a dead one", x -> x.reach(1, 0), NO);
        refusedFull("to a dead one who knows it", x -> x.reach(0, 0), NO);
        refusedFull("what cannot come to a dead one, NO ahead of NONE", x -> x.reach(5, 0), NO);
        refusedFull("no secret, BAD ahead of NO", x -> x.reach(8, 0), BAD);
        refusedFull("no secret, BAD ahead of NONE", x -> x.reach(-1, 5), BAD);
        Check.due("he knows it", full().reach(5, 5), 0);
    }

    private static void allOfThem() {
        Check.sentence("Promise 14: ALL. NONE; BAD (sets of SECRETS; a set may be 0); NO: he is dead.");
        refusedFull("one of them has none", x -> x.all(2 + 32, 5), NONE);
        refusedFull("all of them", x -> x.all(255, 5), NONE);
        refusedFull("to a dead one", x -> x.all(1, 0), NO);
        refusedFull("no secret to a dead one", x -> x.all(0, 0), NO);
        refusedFull("what cannot come to a dead one, NO ahead of NONE", x -> x.all(32, 0), NO);
        refusedFull("a secret that there is not, BAD ahead of NO", x -> x.all(256, 0), BAD);
        refusedFull("and one that there is", x -> x.all(257, 1), BAD);
        refusedFull("BAD ahead of NONE", x -> x.all(256 + 2, 5), BAD);
        refusedFresh("a sixth secret", x -> x.all(32, 0), BAD);
        Check.due("a set may be 0", full().all(0, 5), 0);
        Check.due("what he knows", full().all(32, 5), 0);
        Check.due("all five", fresh().all(31, 0) == BAD ? 1 : 0, 0);
    }

    private static void parting() {
        Check.sentence("Promise 15: APART. NONE; BAD; NO: he is dead.");
        refusedFull("he knows it", x -> x.apart(5, 5), NONE);
        refusedFull("a dead one", x -> x.apart(1, 0), NO);
        refusedFull("a dead one knows it, NO ahead of NONE", x -> x.apart(0, 0), NO);
        refusedFull("BAD ahead of NO", x -> x.apart(8, 0), BAD);
        Check.due("never anyhow", full().apart(1, 5), 0);
    }

    private static void worths() {
        Check.sentence("Promise 16: WORTH. BAD; NO (dead, too).");
        refusedFull("he does not know it", x -> x.worth(4, 5), NO);
        refusedFull("he is dead and knows it", x -> x.worth(0, 0), NO);
        refusedFull("he is dead and does not know it", x -> x.worth(0, 5), NO);
        refusedFull("BAD ahead of NO", x -> x.worth(0, 8), BAD);
        Check.due("he knows it and meets nobody", full().worth(5, 5), 0);
    }

    private static void witnesses() {
        Check.sentence("Promise 17: A WITNESS: how many. BAD; FULL.");
        refusedFull("a sixth", x -> x.witness(1, 1), FULL);
        refusedFull("BAD ahead of FULL", x -> x.witness(6, 1), BAD);
        refusedFull("BAD ahead of FULL, of a secret", x -> x.witness(1, 8), BAD);
        Check.refused("no secrets at all", CallBoundsTest::least, x -> x.witness(0, 0), BAD);
        OlderByABlush x = full();
        x.dismiss();
        Check.due("a dead one", x.witness(0, 0), 1);
    }

    private static void dismissing() {
        Check.sentence("Promise 18: No WITNESSES: how many were.");
        Check.due("of none", fresh().dismiss(), 0);
        OlderByABlush x = full();
        Check.due("of five", x.dismiss(), 5);
        for (int i = 1; i <= 5; i++) {
            Check.due("called again", x.witness(i, i), i);
        }
        Check.same("all is as it was", Check.state(x), Check.state(full()));
        OlderByABlush y = full();
        y.dismiss();
        Check.same("what was stays", Check.history(y), Check.history(full()));
    }

    private static void confessions() {
        Check.sentence("Promise 20: CONFESSION: the day (what = 0; NONE), as much: above (1), below (2). BAD.");
        refusedFull("no day", x -> x.confession(5, 1, 0, 4, 0), NONE);
        refusedFull("no days at all", x -> x.confession(5, 1, 5, 0, 0), NONE);
        refusedFull("BAD ahead of NONE", x -> x.confession(5, 1, 0, 4, 3), BAD);
        refusedFull("BAD ahead of NONE, of days", x -> x.confession(5, 1, 0, 13, 0), BAD);
    }

    private static void sights() {
        Check.sentence("Promise 21: SEEN: how many. BAD; FULL.");
        refusedFull("a seventh", x -> x.seen(1, 1, 1), FULL);
        refusedFull("BAD ahead of FULL, of persons", x -> x.seen(6, 1, 1), BAD);
        refusedFull("BAD ahead of FULL, of learners", x -> x.seen(1, 10, 1), BAD);
        refusedFull("BAD ahead of FULL, of shades", x -> x.seen(1, 1, 21), BAD);
    }

    private static void forgetting() {
        Check.sentence("Promise 22: Nothing is SEEN: how many were.");
        Check.due("of nothing", fresh().forget(), 0);
        OlderByABlush x = full();
        Check.due("of six", x.forget(), 6);
        for (int i = 0; i < 6; i++) {
            Check.due("all five kinds", x.kinds(i), 31);
        }
        for (int k = 0; k < 6; k++) {
            Check.due("seen again", x.seen(k, k, k), k + 1);
        }
        Check.same("all is as it was", Check.state(x), Check.state(full()));
        OlderByABlush y = full();
        y.forget();
        Check.same("what was stays", Check.history(y), Check.history(full()));
    }

    private static void outs() {
        Check.sentence("Promise 24: OUT: how many (what = 0), the lowest (1; NONE). BAD; NO: he is dead.");
        refusedFull("none", x -> x.out(1, 99, 1), NONE);
        Check.due("how many of none", full().out(1, 99, 0), 0);
        refusedFull("dead: how many", x -> x.out(0, 0, 0), NO);
        refusedFull("dead: the lowest", x -> x.out(0, 0, 1), NO);
        refusedFull("dead, and there is none: NO ahead of NONE", x -> x.out(0, 99, 1), NO);
        refusedFull("dead, and BAD ahead of NO", x -> x.out(0, 100, 1), BAD);
        refusedFull("BAD ahead of NONE", x -> x.out(1, 99, 2), BAD);
    }

    private static void keeping() {
        Check.sentence("Promise 26: KEPT: how many. FULL.");
        refusedFull("a third", OlderByABlush::keep, FULL);
        OlderByABlush x = fresh();
        Check.due("one", x.keep(), 1);
        Check.due("two", x.keep(), 2);
        Check.sentence("Promise 27: As KEPT last (it is KEPT no more then): how many are left; nothing is UNDONE then. NO.");
        refusedFresh("nothing is kept", OlderByABlush::back, NO);
        Check.refused("nothing is kept, but something can be undone", () -> {
            OlderByABlush y = fresh();
            y.day();
            y.tell(0, 0, 2);
            return y;
        }, OlderByABlush::back, NO);
        OlderByABlush full = full();
        Check.due("to the second", full.back(), 1);
        Check.due("nothing is undone", full.undo(), NO);
        Check.due("day 2", full.count(4), 2);
        Check.due("to the first", full.back(), 0);
        Check.due("day 0, and 0 is alive", full.count(4) * 10 + full.person(0, 5), 1);
        Check.due("no third", full.back(), NO);
    }

    private static void counts() {
        Check.sentence("Promise 28: How many: 0 PERSONS, .. 9 letters of THE TEXT. BAD.");
        int[] atFirst = {5, 5, 5, 80, 0, 0, 0, 0, 0, 0};
        for (int what = -20; what <= 20; what++) {
            Check.due("count " + what, fresh().count(what), what >= 0 && what <= 9 ? atFirst[what] : BAD);
        }
    }
}
