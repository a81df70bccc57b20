/** Promises 13 to 20: reach, all, apart, worth, witness, dismiss, order, confession. */
public final class ShouldBeTest {
    private static final int BAD = OlderByABlush.BAD, NO = OlderByABlush.NO;
    private static final int FULL = OlderByABlush.FULL, NONE = OlderByABlush.NONE;

    public static void main(String[] args) {
        reaching();
        reachingOfMasked();
        reachingPastTheDead();
        allTogether();
        cutting();
        worths();
        witnesses();
        orders();
        ordersOfTheDying();
        confessions();
        Check.end();
    }

    private static void reaching() {
        // 0 to 1 to 4 by a confessor, or 0 to 2 to 3 to 4: the care of a shy one makes the short way cheaper
        OlderByABlush x = Check.laid("p0,1;p0,4;p0,0;p0,0;p0,0;p0,0;m0,1;m1,4;m0,2;m2,3;m3,4;s0,0;", 6);
        Check.due("the one whose it is", x.reach(0, 0), 0);
        Check.due("a confessor", x.reach(0, 1), 3);
        Check.due("the short way", x.reach(0, 4), 5);
        Check.due("no way", x.reach(0, 5), NONE);
        // of a rogue the long way costs nothing, the confessor costs one
        OlderByABlush y = Check.laid("p0,2;p0,4;p0,0;p0,0;p0,0;m0,1;m1,4;m0,2;m2,3;m3,4;s0,0;", 5);
        Check.due("the long way", y.reach(0, 4), 0);
        Check.due("the confessor himself", y.reach(0, 1), 1);
        // his own told by himself costs whole shades
        OlderByABlush z = Check.laid("p0,0;p0,0;m0,1;s0,0;", 2);
        Check.due("no half", z.reach(0, 1), 1);
        // as if nobody died of it
        OlderByABlush w = Check.laid("p6,1;p6,4;p0,0;m0,1;m1,2;s0,0;d7;", 3);
        Check.due("nobody dies of it", w.reach(0, 2), 5);
        Check.due("no such secret", w.reach(1, 0), BAD);
        Check.due("no secret below 0", w.reach(-1, 0), BAD);
        Check.due("no such person", w.reach(0, 3), BAD);
        Check.due("no person below 0", w.reach(0, -1), BAD);
    }

    private static void reachingOfMasked() {
        String line = "p0,3;p0,0;p0,0;p0,0;p0,0;p0,0;m0,1;m1,2;m2,3;m3,4;m4,5;";
        OlderByABlush x = Check.laid(line + "s0,0;s0,8;s0,24;", 6);
        int[][] want = {{0, 0, 0, 1, 2, 3}, {0, 0, 0, 0, 0, 1}, {0, 1, 1, 0, 0, 1}};
        for (int s = 0; s < want.length; s++) {
            for (int i = 0; i < 6; i++) {
                Check.due("masked " + s + " to " + i, x.reach(s, i), want[s][i]);
            }
        }
    }

    private static void reachingPastTheDead() {
        // 1 dies by telling his own before 0 and 2; then the line is broken, and what is his costs nothing
        OlderByABlush x = Check.laid("p0,0;p5,1;p0,0;p0,4;m0,1;m1,2;m2,3;s1,0;s0,0;s1,1;d7;", 4);
        x.tell(1, 0, 5);
        Check.due("dead", x.person(1, 5), 0);
        Check.due("to a dead one", x.reach(1, 1), NO);
        Check.due("to a dead one who knows it", x.reach(0, 1), NO);
        Check.due("past a dead one", x.reach(1, 2), NONE);
        Check.due("of a dead one, but for the confessor", x.reach(0, 3), 1);
        Check.due("only the dead and one apart know it", x.reach(2, 2), NONE);
        Check.due("one who knows it", x.reach(2, 0), 0);
    }

    private static void allTogether() {
        for (int i = 0; i < 5; i++) {
            for (int set = 0; set < 32; set++) {
                OlderByABlush x = new OlderByABlush();
                int sum = 0;
                for (int s = 0; s < 5; s++) {
                    sum += (set >> s & 1) * x.reach(s, i);
                }
                Check.due("all " + set + " " + i, x.all(set, i), sum);
            }
        }
        OlderByABlush x = new OlderByABlush();
        Check.due("a set beyond", x.all(32, 0), BAD);
        Check.due("a set below 0", x.all(-1, 0), BAD);
        Check.due("the lowest set", x.all(Integer.MIN_VALUE, 0), BAD);
        Check.due("no such person", x.all(1, 5), BAD);
        Check.due("no person below 0", x.all(0, -1), BAD);
        OlderByABlush y = Check.laid("p1,0;p1,0;s0,0;s0,2;s1,0;", 2);
        Check.due("one has none", y.all(7, 1), NONE);
        Check.due("those that have", y.all(6, 1), 0);
        Check.due("no secret", y.all(0, 1), 0);
        OlderByABlush z = Check.laid("p5,1;p1,0;p1,0;m0,1;m0,2;s0,0;d7;", 3);
        z.tell(0, 0, 6);
        Check.due("of a dead one", z.all(1, 0), NO);
        Check.due("even no secret", z.all(0, 0), NO);
        Check.due("BAD ahead of NO", z.all(2, 0), BAD);
    }

    private static void cutting() {
        // 5 meets 3 and 4; 3, 4 meet 1, 2; both of these meet 0
        String net = "p0,0;p0,0;p0,0;p0,0;p0,0;p5,1;m0,1;m0,2;m1,3;m1,4;m2,3;m2,4;m3,5;m4,5;";
        OlderByABlush x = Check.laid(net + "s0,0;s3,0;s0,32;s5,4;", 6);
        Check.due("by the ends", x.apart(0, 5), 2);
        Check.due("in the middle", x.apart(0, 3), 2);
        Check.due("three meetings of both ends", x.apart(1, 1), 3);
        Check.due("he knows it", x.apart(0, 0), NONE);
        Check.due("two who know it", x.apart(2, 3), 3);
        Check.due("two who know it, to the one between", x.apart(3, 0), 2);
        Check.due("no such secret", x.apart(4, 0), BAD);
        Check.due("no secret below 0", x.apart(-1, 0), BAD);
        Check.due("no such person", x.apart(0, 6), BAD);
        Check.due("no person below 0", x.apart(0, -1), BAD);
        OlderByABlush y = Check.laid("p0,0;p0,0;p0,0;m0,1;m0,1;m1,0;s0,0;", 3);
        Check.due("the same meeting again", y.apart(0, 1), 1);
        Check.due("never anyhow", y.apart(0, 2), 0);
        // the dead meet nobody
        OlderByABlush z = Check.laid("p0,0;p5,1;p0,0;m0,1;m1,2;m0,2;s0,0;s1,0;d7;", 3);
        Check.due("two ways", z.apart(0, 2), 2);
        z.tell(1, 1, 5);
        Check.due("one way", z.apart(0, 2), 1);
        Check.due("a dead one", z.apart(0, 1), NO);
        Check.due("a dead one who knows it", z.apart(1, 1), NO);
    }

    private static void worths() {
        String star = ";p0,0;p0,4;p0,0;p0,0;p0,0;m0,1;m0,2;m0,3;m0,4;m0,5;m1,2;m1,3;m1,4;m1,5;s0,2;";
        int[] told = {4, 8, 0, 3, 4};
        for (int kind = 0; kind < 5; kind++) {
            OlderByABlush x = Check.laid("p10," + kind + star, 6);
            Check.due("worth of kind " + kind, x.worth(1, 0), told[kind]);
            Check.due("confessed of kind " + kind, x.worth(0, 0), told[kind] / 2);
            Check.due("he does not know it", x.worth(2, 0), NO);
            Check.due("nothing changes", x.person(0, 0), 10);
            Check.due("nobody learns", x.secret(0, 1), 3);
        }
        OlderByABlush y = Check.laid("p5,1;p1,0;p1,0;p1,0;m0,1;m0,2;m1,3;s0,0;d7;", 4);
        y.tell(0, 0, 6);
        Check.due("by a dead one", y.worth(0, 0), NO);
        Check.due("of a dead one", y.worth(1, 0), 0);
        Check.due("no such person", y.worth(4, 0), BAD);
        Check.due("no person below 0", y.worth(-1, 0), BAD);
        Check.due("no such secret", y.worth(0, 1), BAD);
        Check.due("no secret below 0", y.worth(0, -1), BAD);
    }

    private static void witnesses() {
        OlderByABlush x = new OlderByABlush();
        Check.due("none to dismiss", x.dismiss(), 0);
        Check.due("no such person", x.witness(5, 0), BAD);
        Check.due("no person below 0", x.witness(-1, 0), BAD);
        Check.due("no such secret", x.witness(0, 5), BAD);
        Check.due("no secret below 0", x.witness(0, -1), BAD);
        for (int k = 1; k <= 5; k++) {
            Check.due("the same again", x.witness(2, 0), k);
        }
        Check.due("a sixth", x.witness(2, 0), FULL);
        Check.due("BAD ahead of FULL", x.witness(5, 0), BAD);
        Check.due("five", x.count(5), 5);
        Check.due("five dismissed", x.dismiss(), 5);
        Check.due("none left", x.count(5), 0);
        Check.due("none", x.dismiss(), 0);
        Check.due("no order of none", x.order(0), BAD);
    }

    private static void order(OlderByABlush x, int shades, int... turns) {
        String ahead = Check.standing(x);
        Check.due("shades", x.order(-1), shades);
        for (int k = 0; k < turns.length; k++) {
            Check.due("turn " + k, x.order(k), turns[k]);
        }
        Check.due("none behind", x.order(turns.length), BAD);
        Check.due("none ahead", x.order(-2), BAD);
        Check.due("lowest", x.order(Integer.MIN_VALUE), BAD);
        Check.same("nothing changes", Check.standing(x), ahead);
    }

    private static void orders() {
        OlderByABlush x = Check.laid("p0,1;p0,0;p0,4;s0,2;s1,0;s2,0;", 3);
        order(x, 0);
        x.witness(1, 0);
        order(x, 0, 0);
        // 1 tells 0's before 2: 2 shades and the confessor's; behind him nobody hears it
        x.witness(2, 1);
        order(x, 0, 1, 0);
        // 1 again, with his own: a person does not tell before himself
        x.witness(1, 1);
        order(x, 0, 1, 0, 2);
        x.dismiss();
        // whether they meet or not: 0 confesses before 1 and 2, or speaks last
        x.witness(0, 0);
        x.witness(2, 2);
        order(x, 0, 1, 0);
        x.dismiss();
        // of several the first by numbers
        x.witness(0, 1);
        x.witness(0, 1);
        x.witness(1, 0);
        order(x, 0, 0, 1, 2);
        // what is heard ahead is known by then and told on
        OlderByABlush y = Check.laid("p0,0;p0,0;p0,0;p0,0;s0,2;s2,0;", 4);
        y.witness(1, 0);
        y.witness(2, 1);
        y.witness(3, 1);
        // 2, 1, 3: 2 confesses before two, one shade, 1 tells before 3: one more; 3, 2, 1: half of one
        order(y, 0, 2, 1, 0);
        y.dismiss();
        // 1 and 3 both speak of what the other does not know, and 1 is a witness twice
        OlderByABlush z = Check.laid("p0,1;p0,0;p0,4;p0,3;s0,2;s3,4;s0,8;", 4);
        z.witness(1, 0);
        z.witness(3, 2);
        z.witness(2, 1);
        z.witness(1, 2);
        // 2 is to speak ahead, or he hears of 0; what he tells is the masked one's, and only 1 learns it: nothing.
        // Then one of 1 and 3 learns what the other knows, 2 shades; 3 last is the first such order
        order(z, 2, 2, 0, 3, 1);
    }

    private static void ordersOfTheDying() {
        // 0 dies of what 1 tells before him; he who is dead hears and tells no more
        OlderByABlush x = Check.laid("p6,0;p0,0;p0,0;s0,2;s1,1;d7;", 3);
        x.witness(1, 0);
        x.witness(2, 1);
        x.witness(0, 1);
        // 1 first: 2 learns it, 0 dies by one shade and tells nothing: 1 in all. 2, then 1, then 0: nothing
        order(x, 0, 1, 0, 2);
        x.dismiss();
        // a dead one is a witness as well, but tells nothing and hears nothing
        OlderByABlush y = Check.laid("p5,1;p0,0;p0,0;m0,1;m0,2;s0,0;s1,0;d7;", 3);
        y.tell(0, 0, 6);
        y.witness(1, 1);
        y.witness(0, 0);
        order(y, 0, 0, 1);
        y.witness(2, 1);
        order(y, 0, 0, 1, 2);
        Check.due("nobody but 1 knows it", y.secret(1, 1), 2);
        // the dead age no more: with 1 ahead of both, 0 dies by the first two shades and not by more
        OlderByABlush z = Check.laid("p6,1;p0,0;p0,0;s0,2;s0,6;d7;", 3);
        z.witness(1, 0);
        z.witness(2, 0);
        z.witness(1, 1);
        order(z, 0, 1, 0, 2);
    }

    private static void confession(int u, int c, int x, int n, long day, long above, long below) {
        OlderByABlush o = new OlderByABlush();
        String call = "confession " + u + " " + c + " " + x + " " + n + " ";
        Check.due(call + "day", o.confession(u, c, x, n, 0), day);
        Check.due(call + "above", o.confession(u, c, x, n, 1), above);
        Check.due(call + "below", o.confession(u, c, x, n, 2), below);
    }

    private static void confessions() {
        confession(9, 2, 10, 12, 1, 9, 1);
        confession(9, 2, 0, 12, NONE, 0, 1);
        confession(0, 2, 0, 12, 1, 0, 1);
        confession(9, 0, 5, 1, 1, 0, 1);
        confession(0, 0, 0, 0, NONE, 0, 1);
        // one shade, nothing by half, cut: as well from the first day on
        confession(1, 1, 1, 1, 1, 0, 1);
        // one day by a chance of one of ten: 8 by 10
        confession(4, 2, 1, 1, NONE, 4, 5);
        // two days: 8 times 19 by 100
        confession(4, 2, 1, 2, NONE, 38, 25);
        // as well, not better: 6 times 5 by 10 is 3
        confession(6, 1, 5, 1, 1, 3, 1);
        // 6 days: 8 times (1 - 9^6 / 10^6) is 3.748472; on the 7th from the end it is more than 4
        confession(4, 2, 1, 6, NONE, 468559, 125000);
        confession(4, 2, 1, 7, 1, 4, 1);
        OlderByABlush o = new OlderByABlush();
        int[] edges = {-1, Integer.MIN_VALUE, Integer.MAX_VALUE};
        for (int e : edges) {
            Check.due("u", o.confession(e, 1, 1, 1, 1), BAD);
            Check.due("c", o.confession(1, e, 1, 1, 1), BAD);
            Check.due("x", o.confession(1, 1, e, 1, 1), BAD);
            Check.due("n", o.confession(1, 1, 1, e, 1), BAD);
            Check.due("what", o.confession(1, 1, 1, 1, e), BAD);
        }
        Check.due("u 10", o.confession(10, 1, 1, 1, 1), BAD);
        Check.due("c 3", o.confession(1, 3, 1, 1, 1), BAD);
        Check.due("x 11", o.confession(1, 1, 11, 1, 1), BAD);
        Check.due("n 13", o.confession(1, 1, 1, 13, 1), BAD);
        Check.due("what 3", o.confession(1, 1, 1, 1, 3), BAD);
    }
}
