/** Promises 21 to 28: seen, forget, kinds, out, year, keep, back, count. */
public final class WhatWasTest {
    private static final int BAD = OlderByABlush.BAD, NO = OlderByABlush.NO;
    private static final int FULL = OlderByABlush.FULL, NONE = OlderByABlush.NONE;
    private static final int PLAIN_OR_CONFESSOR = 17, SHY = 2, ROGUE = 4, MASKED = 8;

    public static void main(String[] args) {
        seeing();
        kinds();
        outOfKinds();
        outOfSets();
        years();
        yearsOfTheDying();
        keeping();
        counts();
        Check.end();
    }

    private static void seeing() {
        OlderByABlush x = new OlderByABlush();
        Check.due("nothing to forget", x.forget(), 0);
        Check.due("no such person", x.seen(5, 0, 0), BAD);
        Check.due("no person below 0", x.seen(-1, 0, 0), BAD);
        Check.due("10 learn", x.seen(0, 10, 0), BAD);
        Check.due("-1 learn", x.seen(0, -1, 0), BAD);
        Check.due("21 shades", x.seen(0, 0, 21), BAD);
        Check.due("-1 shades", x.seen(0, 0, -1), BAD);
        Check.due("the edges", x.seen(4, 9, 20), 1);
        Check.due("the other edges", x.seen(0, 0, 0), 2);
        for (int k = 3; k <= 6; k++) {
            Check.due("one more", x.seen(1, 1, 1), k);
        }
        Check.due("a seventh", x.seen(1, 1, 1), FULL);
        Check.due("BAD ahead of FULL", x.seen(1, 1, 21), BAD);
        Check.due("six", x.count(6), 6);
        Check.due("six forgotten", x.forget(), 6);
        Check.due("none", x.count(6), 0);
        Check.due("all five again", x.kinds(1), 31);
    }

    private static void kinds() {
        for (int n = 0; n <= 9; n++) {
            for (int h = 0; h <= 20; h++) {
                OlderByABlush x = new OlderByABlush();
                x.seen(2, n, h);
                int want = (h == n ? PLAIN_OR_CONFESSOR : 0) + (h == 2 * n ? SHY : 0) + (h == 0 ? ROGUE : 0)
                        + (h == (n < 2 ? 0 : n - 2) ? MASKED : 0);
                Check.due("kinds by " + n + " " + h, x.kinds(2), want);
                Check.due("kinds of another", x.kinds(1), 31);
            }
        }
        OlderByABlush x = new OlderByABlush();
        x.seen(0, 2, 0);
        Check.due("rogue or masked", x.kinds(0), ROGUE + MASKED);
        x.seen(1, 3, 3);
        x.seen(0, 3, 1);
        Check.due("masked", x.kinds(0), MASKED);
        x.seen(0, 3, 0);
        Check.due("of no kind", x.kinds(0), 0);
        Check.due("no such person", x.kinds(5), BAD);
        Check.due("no person below 0", x.kinds(-1), BAD);
    }

    private static void outOfKinds() {
        // two secrets of 0: one that 1 knows, four to learn it, one that none knows, five to learn it
        String rest = ";p0,0;p0,4;p0,0;p0,0;p0,0;s1,0;s0,2;s0,0;";
        int[][] sums = {{4, 5}, {8, 10}, {0, 0}, {3, 3}, {4, 5}};
        for (int kind = 0; kind < 5; kind++) {
            OlderByABlush x = Check.laid("p10," + kind + rest, 6);
            int a = sums[kind][0];
            int b = sums[kind][1];
            for (int h = 0; h <= 99; h++) {
                int many = (h == 0 ? 1 : 0) + (h == a ? 1 : 0) + (h == b ? 1 : 0) + (h == a + b ? 1 : 0);
                int lowest = h == 0 ? 0 : h == a ? 2 : h == b ? 4 : h == a + b ? 6 : NONE;
                Check.due("out of kind " + kind + " by " + h, x.out(0, h, 0), many);
                Check.due("lowest of kind " + kind + " by " + h, x.out(0, h, 1), lowest);
            }
        }
    }

    private static void outOfSets() {
        // eight secrets of a shy one that five do not know: 80 shades in all
        OlderByABlush x = Check.laid("p1,1;p0,0;p0,0;p0,0;p0,0;p0,0;s0,0;s0,0;s0,0;s0,0;s0,0;s0,0;s0,0;s0,0;", 6);
        Check.due("all eight", x.out(0, 80, 0), 1);
        Check.due("all eight, lowest", x.out(0, 80, 1), 255);
        Check.due("four of eight", x.out(0, 40, 0), 70);
        Check.due("four of eight, lowest", x.out(0, 40, 1), 15);
        Check.due("99", x.out(0, 99, 0), 0);
        Check.due("100", x.out(0, 100, 0), BAD);
        Check.due("-1", x.out(0, -1, 0), BAD);
        Check.due("what 2", x.out(0, 0, 2), BAD);
        Check.due("what -1", x.out(0, 0, -1), BAD);
        Check.due("no such person", x.out(6, 0, 0), BAD);
        Check.due("no person below 0", x.out(-1, 0, 0), BAD);
        Check.due("one without secrets", x.out(1, 0, 0), 1);
        Check.due("one without secrets, lowest", x.out(1, 0, 1), 0);
        Check.due("one without secrets, older", x.out(1, 1, 0), 0);
        // the dead learn nothing, but a masked one minds that they know it
        OlderByABlush y = Check.laid("p1,3;p5,1;p0,0;p0,0;p0,0;m1,2;m1,3;s0,6;s1,0;s0,4;d7;", 5);
        Check.due("with all alive", y.out(0, 2, 1), 1);
        y.tell(1, 1, 12);
        Check.due("dead", y.out(1, 0, 0), NO);
        Check.due("dead, and a wrong number", y.out(1, 100, 0), BAD);
        Check.due("the dead knows it", y.out(0, 2, 1), 1);
        Check.due("the dead does not learn it", y.out(0, 1, 1), 4);
        Check.due("both", y.out(0, 3, 1), 5);
        Check.due("four learn nothing", y.out(0, 4, 1), NONE);
    }

    private static void years() {
        OlderByABlush x = new OlderByABlush();
        String ahead = Check.state(x);
        Check.due("as told", x.year(5, 60, 1), 86);
        Check.due("as told, dead", x.year(5, 60, 0), 0);
        Check.same("nothing changes", Check.state(x), ahead);
        // z 0, step 0: x is 1, DRAW 0: person 0 tells secret 0 to all whom he meets, confessed
        OlderByABlush y = Check.laid("p10,1;p0,0;p0,4;p0,0;m0,1;m0,2;s0,0;", 4);
        Check.due("one step", y.year(0, 1, 1), 13);
        // z 1, step 0: x is 7920, its square 62726400, modulo 65521 22803, DRAW 2850: person 0, secret 475 of 2: 1
        OlderByABlush z = Check.laid("p0,0;p0,0;p0,0;m0,1;m0,2;s0,0;s1,1;", 3);
        Check.due("another step", z.year(1, 1, 1), 1);
        Check.due("no secrets", Check.laid("p3,0;p4,0;m0,1;", 2).year(9999, 60, 1), 7);
        int[] edges = {-1, 10000, Integer.MIN_VALUE, Integer.MAX_VALUE};
        for (int e : edges) {
            Check.due("z " + e, x.year(e, 1, 0), BAD);
            Check.due("n " + e, x.year(0, e, 0), BAD);
            Check.due("what " + e, x.year(0, 1, e), BAD);
        }
        Check.due("0 steps", x.year(0, 0, 0), BAD);
        Check.due("61 steps", x.year(0, 61, 0), BAD);
        Check.due("what 2", x.year(0, 1, 2), BAD);
        Check.due("60 steps of 9999", x.year(9999, 60, 0), 0);
    }

    private static void yearsOfTheDying() {
        OlderByABlush x = Check.laid("p6,1;p0,0;p0,0;m0,1;m0,2;s0,0;d7;", 3);
        Check.due("dead by the first step", x.year(0, 1, 0), 1);
        Check.due("ages, of the dead, too", x.year(0, 1, 1), 8);
        x.tell(0, 0, 6);
        Check.due("who was dead is dead", x.year(0, 1, 0), 1);
        Check.due("nothing more is told", x.year(0, 60, 1), 8);
    }

    private static void keeping() {
        OlderByABlush x = new OlderByABlush();
        Check.due("nothing kept", x.back(), NO);
        String first = village(x);
        Check.due("one", x.keep(), 1);
        x.tell(0, 0, 10);
        x.day();
        String second = village(x);
        Check.due("two", x.keep(), 2);
        Check.due("a third", x.keep(), FULL);
        Check.due("two are kept", x.count(8), 2);
        x.day();
        x.undo();
        x.day();
        x.witness(0, 0);
        x.seen(0, 1, 1);
        Check.due("that can be undone", x.count(7), 3);
        Check.due("back to the second", x.back(), 1);
        Check.same("as it was", village(x), second);
        Check.due("nothing is undone", x.undo(), NO);
        Check.due("witnesses stay", x.count(5), 1);
        Check.due("what is seen stays", x.count(6), 1);
        x.day();
        Check.due("back to the first", x.back(), 0);
        Check.same("as it was at first", village(x), first);
        Check.due("no more", x.back(), NO);
        x.day();
        Check.due("no more, nothing changes", x.back(), NO);
        Check.due("the day can be undone", x.undo(), 0);
        Check.due("kept again", x.keep(), 1);
    }

    private static String village(OlderByABlush x) {
        StringBuilder all = new StringBuilder();
        for (int i = 0; i < 5; i++) {
            all.append(x.person(i, 0)).append(' ').append(x.person(i, 3)).append(' ');
        }
        return all.append(x.count(4)).toString();
    }

    private static void counts() {
        OlderByABlush x = Check.laid("p5,1;p0,0;p0,0;m0,1;m0,2;m1,2;s0,0;s1,2;d7;", 3);
        x.tell(0, 0, 6);
        x.day();
        x.day();
        x.day();
        for (int k = 0; k < 4; k++) {
            x.witness(1, 1);
        }
        for (int k = 0; k < 5; k++) {
            x.seen(1, 1, 1);
        }
        x.keep();
        int[] want = {3, 2, 2, 7, 3, 4, 5, 4, 1, 43};
        for (int what = 0; what < want.length; what++) {
            Check.due("count " + what, x.count(what), want[what]);
        }
        int[] bad = {-1, 10, Integer.MIN_VALUE, Integer.MAX_VALUE};
        for (int what : bad) {
            Check.due("count " + what, x.count(what), BAD);
        }
    }
}
