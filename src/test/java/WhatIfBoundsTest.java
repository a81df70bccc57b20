import java.math.BigInteger;

/** "Terms", from REACH on: what should be, what was, what is KEPT; each bound on both sides. */
public final class WhatIfBoundsTest {
    private static final int BAD = OlderByABlush.BAD, NO = OlderByABlush.NO;
    private static final int FULL = OlderByABlush.FULL, NONE = OlderByABlush.NONE;

    public static void main(String[] args) {
        reachNoneOrNothing();
        reachOfAllTogether();
        reachByOneWhoIsAlive();
        reachAsIfNobodyDied();
        reachNotConfessed();
        allEachForItself();
        allOfNoneAndNone();
        apartFewest();
        apartOfTheLiving();
        apartNone();
        worthBeforeAll();
        worthConfessed();
        worthNotKnown();
        witnessesFive();
        ordersOfAll();
        orderOfFive();
        orderIfAliveAndKnowing();
        orderBehindHim();
        orderFirstOfSeveral();
        confessionRanges();
        confessionAsWell();
        confessionLowestTerms();
        seenSix();
        seenRanges();
        kindsOfAllSeen();
        outJust();
        outAllOthersAlive();
        outLowestAndNone();
        yearRanges();
        yearDraws();
        yearSteps();
        yearWithoutSecrets();
        keptTwo();
        keptWhat();
        calls512();
        Check.end();
    }

    private static void reachNoneOrNothing() {
        Check.sentence("REACH: none (0: he knows it)");
        OlderByABlush x = Check.laid("p0,0;p0,0;p0,0;p0,0;m0,1;m2,3;s0,4;s0,0;", 4);
        Check.due("whose it is", x.reach(0, 0), 0);
        Check.due("who knows it", x.reach(0, 2), 0);
        Check.due("next to one who knows it", x.reach(0, 3), 1);
        Check.due("no way", x.reach(1, 3), NONE);
        Check.due("one person", Check.laid("p0,0;s0,0;", 1).reach(0, 0), 0);
        // 0 of a rogue is not that he knows it
        OlderByABlush y = Check.laid("p0,2;p0,0;m0,1;s0,0;", 2);
        Check.due("no shade of a rogue", y.reach(0, 1), 0);
        Check.due("he does not know it", y.person(1, 3), 0);
    }

    private static void reachOfAllTogether() {
        Check.sentence("REACH: the fewest shades, of all together");
        // of a shy one by five: the longest way that there is
        String line = "m0,1;m1,2;m2,3;m3,4;m4,5;s0,0;";
        OlderByABlush shy = Check.laid("p0,1;p0,4;p0,4;p0,4;p0,4;p0,4;" + line, 6);
        OlderByABlush masked = Check.laid("p0,3;p0,0;p0,0;p0,0;p0,0;p0,0;" + line, 6);
        int[] ofMasked = {0, 0, 0, 1, 2, 3};
        for (int i = 0; i < 6; i++) {
            Check.due("shy, by confessors, to " + i, shy.reach(0, i), 3 * i);
            Check.due("masked, to " + i, masked.reach(0, i), ofMasked[i]);
        }
        // two steps by a confessor cost 3, three without cost 3, too; of a rogue 1 and 0; of a shy one 5 and 6
        String two = ";p0,4;p0,0;p0,0;p0,0;m0,1;m1,4;m0,2;m2,3;m3,4;s0,0;";
        int[] fewest = {3, 5, 0, 1, 3};
        for (int kind = 0; kind < 5; kind++) {
            Check.due("of kind " + kind, Check.laid("p0," + kind + two, 5).reach(0, 4), fewest[kind]);
        }
    }

    private static void reachByOneWhoIsAlive() {
        Check.sentence("REACH: TOLD by one who is alive to another one alone, by that one to the next");
        // 1 knows it, dies, and stood between 0 and 2; 3 is beside 0
        OlderByABlush x = Check.laid("p0,0;p9,0;p0,0;p0,0;p0,0;m0,1;m1,2;m0,3;s0,2;s1,16;s1,2;d10;", 5);
        Check.due("to 2 by 1", x.reach(0, 2), 1);
        x.witness(0, 0);
        OlderByABlush y = Check.laid("p0,0;p9,0;p0,0;p0,0;p0,0;m0,1;m1,2;m0,3;m4,3;s0,2;s1,16;s1,0;d10;", 5);
        y.tell(4, 1, 8);
        Check.due("1 is dead", y.person(1, 5), 0);
        Check.due("to 2 no more", y.reach(0, 2), NONE);
        Check.due("to 3 by 0", y.reach(0, 3), 1);
        Check.due("what only the dead knows comes to nobody", y.reach(2, 0), NONE);
        Check.due("to the dead himself", y.reach(2, 1), NO);
        Check.due("to the dead who could learn it", y.reach(0, 1), NO);
    }

    private static void reachAsIfNobodyDied() {
        Check.sentence("REACH: as if nobody died of it");
        // 0 dies of the first step, the confessors of theirs: the way goes on and they age on
        OlderByABlush x = Check.laid("p9,1;p9,4;p9,4;p0,0;m0,1;m1,2;m2,3;s0,0;d10;", 4);
        Check.due("to 1", x.reach(0, 1), 3);
        Check.due("to 2", x.reach(0, 2), 6);
        Check.due("to 3", x.reach(0, 3), 8);
        Check.due("nobody has died", x.count(1), 4);
    }

    private static void reachNotConfessed() {
        Check.sentence("REACH: and another one told it even if it is his own");
        int[] care = {1, 2, 0, 0, 1};
        for (int kind = 0; kind < 5; kind++) {
            OlderByABlush x = Check.laid("p0," + kind + ";p0,0;m0,1;s0,0;", 2);
            Check.due("no half of kind " + kind, x.reach(0, 1), care[kind]);
        }
    }

    private static void allEachForItself() {
        Check.sentence("ALL: that of a set of SECRETS, each for itself, together");
        for (int i = 0; i < 5; i++) {
            for (int set = 0; set < 32; set++) {
                OlderByABlush x = new OlderByABlush();
                int sum = 0;
                for (int s = 0; s < 5; s++) {
                    sum += (set >> s & 1) * x.reach(s, i);
                }
                Check.due("all " + set + " to " + i, x.all(set, i), sum);
            }
        }
        // each as if the others had not been told: a masked one's two, three steps each
        OlderByABlush y = Check.laid("p0,3;p0,0;p0,0;p0,0;m0,1;m1,2;m2,3;" + "s0,0;".repeat(8), 4);
        Check.due("one of eight", y.all(128, 3), 1);
        Check.due("all eight", y.all(255, 3), 8);
        Check.due("the first that is none", y.all(256, 3), BAD);
    }

    private static void allOfNoneAndNone() {
        Check.sentence("ALL: (0 of no SECRET); none (if one of them has none)");
        OlderByABlush x = Check.laid("p0,0;p0,0;p0,0;m0,1;s0,0;s2,0;s1,0;", 3);
        Check.due("no secret", x.all(0, 1), 0);
        Check.due("one that has", x.all(1, 1), 1);
        Check.due("one that has none", x.all(2, 1), NONE);
        Check.due("the first of two has none", x.all(6, 1), NONE);
        Check.due("the last of two has none", x.all(3, 1), NONE);
        Check.due("none of them has none", x.all(5, 1), 1);
        Check.due("a village without secrets", Check.laid("p0,0;", 1).all(0, 0), 0);
        Check.due("and the first set that is none", Check.laid("p0,0;", 1).all(1, 0), BAD);
    }

    private static void apartFewest() {
        Check.sentence("APART: the fewest MEETINGS to be forbidden so that no TELLING brings a SECRET to a PERSON");
        String six = "p0,0;p0,0;p0,0;p0,0;p0,0;p0,0;";
        String each = "m0,1;m0,2;m0,3;m0,4;m0,5;m1,2;m1,3;m1,4;m1,5;m2,3;m2,4;m2,5;m3,4;m3,5;m4,5;";
        OlderByABlush all = Check.laid(six + each + "s0,0;s0,31;s0,30;", 6);
        for (int i = 1; i < 6; i++) {
            Check.due("all meet all: " + i, all.apart(0, i), 5);
        }
        Check.due("all others know it", all.apart(1, 5), 5);
        Check.due("never anyhow", Check.laid(six + "s0,0;", 6).apart(0, 5), 0);
        Check.due("a line", Check.laid(six + "m0,1;m1,2;m2,3;m3,4;m4,5;s0,0;", 6).apart(0, 5), 1);
        // two by the ends, one in the middle
        OlderByABlush narrow = Check.laid(six + "m0,1;m0,2;m1,2;m2,3;m3,4;m3,5;m4,5;s0,0;s0,8;", 6);
        Check.due("in the middle", narrow.apart(0, 5), 1);
        Check.due("at his end", narrow.apart(1, 5), 2);
        Check.due("at the other end", narrow.apart(0, 1), 2);
    }

    private static void apartOfTheLiving() {
        Check.sentence("APART: MEETINGS of two who are alive");
        OlderByABlush x = Check.laid("p0,0;p9,0;p0,0;p0,0;m0,1;m1,2;m0,2;m3,0;s0,0;s1,8;s1,2;d10;", 4);
        Check.due("two ways", x.apart(0, 2), 2);
        x.tell(3, 1, 1);
        Check.due("1 is dead", x.person(1, 5), 0);
        Check.due("one way", x.apart(0, 2), 1);
        Check.due("what only the dead knows", x.apart(2, 2), 0);
        Check.due("to the dead", x.apart(0, 1), NO);
        Check.due("to the dead who knows it", x.apart(2, 1), NO);
    }

    private static void apartNone() {
        Check.sentence("APART: none (he knows it)");
        OlderByABlush x = Check.laid("p0,0;p0,0;p0,0;s0,2;", 3);
        Check.due("whose it is", x.apart(0, 0), NONE);
        Check.due("who knows it", x.apart(0, 1), NONE);
        Check.due("who does not", x.apart(0, 2), 0);
    }

    private static void worthBeforeAll() {
        Check.sentence("WORTH: how many shades the one whose it is ages, if one who knows it tells it before all whom he MEETS");
        int[] worth = {4, 8, 0, 3, 4};
        for (int kind = 0; kind < 5; kind++) {
            OlderByABlush x = Check.laid("p0," + kind + ";p0,0;p0,4;p0,0;p0,0;p0,0;m0,1;m1,2;m1,3;m1,4;m1,5;s0,2;s0,62;", 6);
            Check.due("kind " + kind, x.worth(1, 0), worth[kind]);
            Check.due("all know it, kind " + kind, x.worth(1, 1), 0);
            Check.due("nothing is told", x.secret(0, 1), 3);
        }
        Check.due("he meets nobody", Check.laid("p0,1;p0,0;s0,2;", 2).worth(1, 0), 0);
        // past D, as by a telling
        OlderByABlush dies = Check.laid("p9,1;p0,0;p0,0;p0,0;m1,2;m1,3;s0,2;d10;", 4);
        Check.due("more than he has left", dies.worth(1, 0), 4);
        Check.due("he lives", dies.count(1), 4);
    }

    private static void worthConfessed() {
        Check.sentence("WORTH: (CONFESSED, if he is the one)");
        int[] shades = {0, 1, 1, 2, 2};
        String text = "p0,0;p0,0;p0,0;p0,0;p0,0;p0,0;s0,0;";
        Check.due("before nobody", Check.laid(text, 6).worth(0, 0), 0);
        for (int many = 1; many <= 5; many++) {
            text += "m0," + many + ";";
            Check.due("plain, before " + many, Check.laid(text, 6).worth(0, 0), shades[many - 1]);
            Check.due("shy, before " + many, Check.laid(text.replaceFirst("p0,0", "p0,1"), 6).worth(0, 0), many);
        }
    }

    private static void worthNotKnown() {
        Check.sentence("WORTH: NO: he does not know it (dead, too)");
        OlderByABlush x = Check.laid("p9,0;p0,0;p0,0;m0,1;m1,2;s0,2;s0,0;d10;", 3);
        Check.due("he knows it", x.worth(1, 0), 1);
        Check.due("he does not", x.worth(1, 1), NO);
        Check.due("nor does he", x.worth(2, 0), NO);
        x.tell(1, 0, 4);
        Check.due("he knows it now, of one who is dead", x.worth(2, 0), 0);
        Check.due("the dead knows it", x.worth(0, 0), NO);
        Check.due("BAD ahead of that", x.worth(0, 2), BAD);
    }

    private static void witnessesFive() {
        Check.sentence("WITNESSES (5 at most) are a PERSON and a SECRET each");
        OlderByABlush x = new OlderByABlush();
        Check.due("none", x.count(5) + x.dismiss(), 0);
        for (int k = 1; k <= 5; k++) {
            Check.due("the " + k + "th", x.witness(k - 1, 5 - k), k);
            Check.due("as many", x.count(5), k);
        }
        Check.due("a sixth", x.witness(0, 0), FULL);
        Check.due("still five", x.count(5), 5);
        Check.due("dismissed", x.dismiss(), 5);
        Check.due("none is left", x.dismiss(), 0);
        Check.due("room again", x.witness(0, 0), 1);
        // whether he knows it or not, the same again as well, his own too
        Check.due("he does not know it", x.witness(2, 0), 2);
        Check.due("the same again", x.witness(2, 0), 3);
    }

    private static void ordersOfAll() {
        Check.sentence("ORDER: by how much; which WITNESS (0 on, as told) is k-th");
        OlderByABlush x = new OlderByABlush();
        Check.due("of none", x.order(-1), 0);
        Check.due("no first of none", x.order(0), BAD);
        Check.due("-2", x.order(-2), BAD);
        for (int many = 1; many <= 5; many++) {
            x.witness(many - 1, many - 1);
            int mask = 0;
            for (int k = 0; k < many; k++) {
                mask |= 1 << x.order(k);
            }
            Check.due("each of " + many + " once", mask, (1 << many) - 1);
            Check.due("none behind " + many, x.order(many), BAD);
            Check.due("none below -1 of " + many, x.order(-2), BAD);
        }
    }

    private static void orderOfFive() {
        Check.sentence("ORDER: of all orders of these that by which all AGES together grow least");
        // each tells of the shy one before those behind him who do not know it: whoever knows more speaks later,
        // so that 4, 3, 2, 1, 0 (the last order of all) costs nothing and every other one something
        OlderByABlush last = Check.laid("p0,0;p0,0;p0,0;p0,0;p0,0;p0,1;s5,1;s5,3;s5,7;s5,15;s5,31;", 6);
        int[] tales = {0, 1, 2, 3, 4};
        for (int i = 0; i < 5; i++) {
            last.witness(i, tales[i]);
        }
        Check.due("nothing by the last order of all", last.order(-1), 0);
        for (int k = 0; k < 5; k++) {
            Check.due("turn " + k, last.order(k), 4 - k);
        }
        // the other way round the first order of all is the only one that costs nothing
        OlderByABlush first = Check.laid("p0,0;p0,0;p0,0;p0,0;p0,0;p0,1;s5,31;s5,30;s5,28;s5,24;s5,16;", 6);
        for (int i = 0; i < 5; i++) {
            first.witness(i, i);
        }
        Check.due("nothing by the first order of all", first.order(-1), 0);
        for (int k = 0; k < 5; k++) {
            Check.due("turn " + k, first.order(k), k);
        }
        // two who must each hear the other's: one of two shades cannot be spared
        OlderByABlush two = Check.laid("p0,1;p0,0;p0,0;p0,0;s0,2;s3,4;", 4);
        two.witness(1, 0);
        two.witness(2, 1);
        Check.due("the cheaper one is told", two.order(-1), 1);
        Check.due("2 speaks first", two.order(0), 1);
    }

    private static void orderIfAliveAndKnowing() {
        Check.sentence("ORDER: each telling his SECRET, if he is alive and knows it");
        OlderByABlush x = Check.laid("p0,1;p0,0;p0,0;p9,0;m1,2;s0,2;s3,4;s0,0;s3,8;d10;", 4);
        x.witness(2, 0);
        x.witness(1, 2);
        Check.due("neither knows it", x.order(-1) * 10 + x.order(0), 0);
        x.dismiss();
        // alive now, dead by what 2 tells: then 3 tells nothing of 0
        OlderByABlush y = Check.laid("p0,1;p0,0;p0,0;p9,0;s0,8;s3,4;d10;", 4);
        y.witness(3, 0);
        y.witness(2, 1);
        y.witness(1, 1);
        // 3 ahead of both: 4 shades; 2 ahead of 3, 1: 1 shade, and he is dead; 1, 3, 2: 2; 1, 2, 3: none
        Check.due("nothing by 1, 2, 3", y.order(-1), 0);
        Check.due("1 first", y.order(0), 2);
        Check.due("then 2", y.order(1), 1);
        Check.due("then 3", y.order(2), 0);
        // 2 and 3 each know of 0 what the other does not, 2 shades; but 2 can tell 1 of 3, who dies of one
        String two = "p0,1;p0,0;p0,0;p%d,0;s0,4;s0,8;s3,4;d10;";
        orderOfTwo(String.format(two, 9), 1, 2, 0, 3, 1);
        // by a shade less he does not die of it
        orderOfTwo(String.format(two, 8), 2, 3, 0, 1, 2);
    }

    private static void orderOfTwo(String text, int shades, int... turns) {
        OlderByABlush x = Check.laid(text, 4);
        x.witness(3, 1);
        x.witness(2, 0);
        x.witness(2, 2);
        x.witness(1, 2);
        Check.due("shades", x.order(-1), shades);
        for (int k = 0; k < turns.length; k++) {
            Check.due("turn " + k, x.order(k), turns[k]);
        }
    }

    private static void orderBehindHim() {
        Check.sentence("ORDER: before all other PERSONS alive who are WITNESSES behind him (whether they MEET or not)");
        // nobody meets anybody; 0, who is shy, confesses before one, or is the last
        OlderByABlush x = Check.laid("p0,1;p0,0;p0,4;s0,2;s1,0;s0,4;", 3);
        x.witness(1, 0);
        Check.due("nobody is behind him", x.order(-1), 0);
        x.witness(1, 0);
        Check.due("he himself behind him learns nothing", x.order(-1), 0);
        x.witness(2, 2);
        // 1 tells 2 and 2 tells 1, one of both is behind: 2 before 1 (twice) is 2 shades, 1 before 2 is 3
        Check.due("2 ahead", x.order(-1), 2);
        Check.due("first 2", x.order(0), 2);
        Check.due("then 1", x.order(1), 0);
        // one who is a witness twice, ahead and behind, hears as well
        x.dismiss();
        x.witness(2, 2);
        x.witness(1, 1);
        x.witness(1, 1);
        Check.due("2 last hears 1, 2 first is heard by 1", x.order(-1), 1);
        Check.due("1, half of one, cut, and the confessor's", x.order(0), 1);
        Check.due("then 1 again", x.order(1), 2);
        Check.due("then 2", x.order(2), 0);
    }

    private static void orderFirstOfSeveral() {
        Check.sentence("ORDER: of several the first (by numbers)");
        OlderByABlush x = Check.laid("p0,2;p0,0;p0,0;p0,0;p0,0;s0,31;", 5);
        for (int i = 0; i < 5; i++) {
            x.witness(4 - i, 0);
        }
        Check.due("all cost nothing", x.order(-1), 0);
        for (int k = 0; k < 5; k++) {
            Check.due("by numbers of witnesses, not of persons", x.order(k), k);
        }
        // 1 must be ahead of 0 only: 0, 1 of no matter: 1, 0, 2, 3 is ahead of 1, 2, 0, 3
        OlderByABlush y = Check.laid("p0,2;p0,0;p0,0;p0,0;p0,1;s4,2;s0,15;", 5);
        y.witness(1, 0);
        y.witness(2, 1);
        y.witness(1, 1);
        y.witness(1, 1);
        Check.due("nothing", y.order(-1), 0);
        int[] turns = {1, 0, 2, 3};
        for (int k = 0; k < 4; k++) {
            Check.due("turn " + k, y.order(k), turns[k]);
        }
    }

    private static void confessionRanges() {
        Check.sentence("CONFESSION: u (0 to 9), n (0 to 12) days, x (0 to 10) of ten, c 0 to 2");
        int[] low = {0, 0, 0, 0, 0};
        int[] high = {9, 2, 10, 12, 2};
        for (int edges = 0; edges < 32; edges++) {
            int[] a = new int[5];
            for (int k = 0; k < 5; k++) {
                a[k] = (edges >> k & 1) == 0 ? low[k] : high[k];
            }
            long got = new OlderByABlush().confession(a[0], a[1], a[2], a[3], a[4]);
            Check.due("edges " + edges + " are let", got == BAD ? 1 : 0, 0);
        }
        // no days: nothing happens, whatever the rest
        confession(9, 2, 10, 0, NONE, 0, 1);
        // nobody left to learn it, or no care: nothing either way, so as well on day 1
        confession(0, 2, 10, 12, 1, 0, 1);
        confession(9, 0, 10, 12, 1, 0, 1);
        confession(0, 0, 0, 1, 1, 0, 1);
        // never found out: never to confess, unless it costs nothing
        confession(9, 2, 0, 12, NONE, 0, 1);
        confession(1, 1, 0, 12, 1, 0, 1);
        confession(2, 1, 0, 12, NONE, 0, 1);
        // found out for sure on day 1
        confession(9, 2, 10, 12, 1, 9, 1);
        confession(9, 2, 10, 1, 1, 9, 1);
        confession(9, 1, 10, 1, 1, 4, 1);
        confession(9, 2, 9, 1, 1, 9, 1);
    }

    private static void confession(int u, int c, int x, int n, long day, long above, long below) {
        OlderByABlush o = new OlderByABlush();
        String call = "confession " + u + " " + c + " " + x + " " + n + " ";
        Check.due(call + "day", o.confession(u, c, x, n, 0), day);
        Check.due(call + "above", o.confession(u, c, x, n, 1), above);
        Check.due(call + "below", o.confession(u, c, x, n, 2), below);
    }

    private static void confessionAsWell() {
        Check.sentence("CONFESSION: the first day (1 ..) on which, not being out, it is as well to confess as to wait");
        // one day, 6 shades or 3: by 5 of ten it is as well, by 4 to wait is better
        confession(6, 1, 5, 1, 1, 3, 1);
        confession(6, 1, 4, 1, NONE, 12, 5);
        confession(6, 1, 6, 1, 1, 3, 1);
        // 5 shades or 2, as half is cut: by 4 of ten it is as well, by 3 not
        confession(5, 1, 4, 1, 1, 2, 1);
        confession(5, 1, 3, 1, NONE, 3, 2);
        // by 3 of ten: two days are 5 times 51 by 100, more than 2
        confession(5, 1, 3, 2, 1, 2, 1);
        // 8 shades or 4 by 1 of ten: six days are below 4, seven are above
        confession(4, 2, 1, 6, NONE, 468559, 125000);
        confession(4, 2, 1, 7, 1, 4, 1);
        confession(4, 2, 1, 12, 1, 4, 1);
    }

    private static void confessionLowestTerms() {
        Check.sentence("CONFESSION: as much, in lowest terms");
        confession(2, 1, 1, 1, NONE, 1, 5);
        confession(4, 1, 2, 1, NONE, 4, 5);
        confession(9, 2, 1, 1, NONE, 9, 5);
        confession(9, 2, 1, 2, NONE, 171, 50);
        confession(2, 2, 2, 3, NONE, 244, 125);
    }

    private static void seenSix() {
        Check.sentence("SEEN (6 at most)");
        OlderByABlush x = new OlderByABlush();
        Check.due("nothing", x.count(6) + x.forget(), 0);
        for (int k = 1; k <= 6; k++) {
            Check.due("the " + k + "th", x.seen(0, 1, 1), k);
            Check.due("as many", x.count(6), k);
        }
        Check.due("a seventh", x.seen(0, 1, 2), FULL);
        Check.due("is not looked at", x.kinds(0), 17);
        Check.due("forgotten", x.forget(), 6);
        Check.due("nothing is left", x.forget(), 0);
        Check.due("room again", x.seen(0, 1, 2), 1);
        Check.due("and only that counts", x.kinds(0), 2);
        // the sixth counts
        OlderByABlush y = new OlderByABlush();
        for (int k = 0; k < 5; k++) {
            y.seen(0, 2, 0);
        }
        Check.due("rogue or masked", y.kinds(0), 12);
        y.seen(0, 3, 1);
        Check.due("masked by the sixth", y.kinds(0), 8);
    }

    private static void seenRanges() {
        Check.sentence("SEEN: a PERSON aged by h (0 to 20) when n (0 to 9) learnt a SECRET of his");
        kindsBy(0, 0, 31);
        kindsBy(0, 1, 0);
        kindsBy(0, 20, 0);
        kindsBy(9, 0, 4);
        kindsBy(9, 20, 0);
        kindsBy(9, 18, 2);
        kindsBy(9, 19, 0);
        kindsBy(9, 17, 0);
        kindsBy(9, 9, 17);
        kindsBy(9, 8, 0);
        kindsBy(9, 7, 8);
        kindsBy(1, 0, 12);
        kindsBy(1, 1, 17);
        kindsBy(1, 2, 2);
        kindsBy(2, 0, 12);
        kindsBy(3, 0, 4);
        kindsBy(3, 1, 8);
        for (int[] wrong : new int[][] {{0, -1, 0}, {0, 10, 0}, {0, 0, -1}, {0, 0, 21}, {-1, 0, 0}, {5, 0, 0}}) {
            Check.refused("seen", OlderByABlush::new, x -> x.seen(wrong[0], wrong[1], wrong[2]), BAD);
        }
    }

    private static void kindsBy(int n, int h, int kinds) {
        OlderByABlush x = new OlderByABlush();
        Check.due("seen " + n + " " + h, x.seen(4, n, h), 1);
        Check.due("kinds by " + n + " " + h, x.kinds(4), kinds);
    }

    private static void kindsOfAllSeen() {
        Check.sentence("KINDS: by all that is SEEN of him (those of which none is SEEN: all five)");
        OlderByABlush x = new OlderByABlush();
        for (int i = 0; i < 5; i++) {
            Check.due("none is seen", x.kinds(i), 31);
        }
        x.seen(1, 2, 2);
        Check.due("of him", x.kinds(1), 17);
        Check.due("not of another", x.kinds(0), 31);
        x.seen(1, 2, 4);
        Check.due("of no kind at all", x.kinds(1), 0);
        x.seen(0, 0, 0);
        Check.due("what tells nothing", x.kinds(0), 31);
        // of which kind he is by the text is another thing
        Check.due("1 is shy", x.person(1, 1), 1);
        // the dead, too
        OlderByABlush y = Check.laid("p9,0;p0,0;p0,0;m1,2;s0,2;d10;", 3);
        y.tell(1, 0, 4);
        Check.due("seen of a dead one", y.seen(0, 1, 2), 1);
        Check.due("kinds of a dead one", y.kinds(0), 2);
    }

    private static void outJust() {
        Check.sentence("OUT: of sets of SECRETS of a PERSON those that would make him older by just h (0 to 99)");
        OlderByABlush x = Check.laid("p0,1;p0,0;p0,0;p0,0;p0,0;p0,0;" + "s0,0;".repeat(8), 6);
        int[] ways = {1, 8, 28, 56, 70, 56, 28, 8, 1};
        for (int h = 0; h <= 99; h++) {
            Check.due("ways to " + h, x.out(0, h, 0), h % 10 == 0 && h <= 80 ? ways[h / 10] : 0);
            Check.due("lowest of " + h, x.out(0, h, 1), h % 10 == 0 && h <= 80 ? (1 << h / 10) - 1 : NONE);
        }
        Check.due("100", x.out(0, 100, 0), BAD);
        Check.due("-1", x.out(0, -1, 0), BAD);
        // of a rogue, and of a secret that all know, each set is by 0
        Check.due("of a rogue", Check.laid("p0,2;p0,0;s0,0;s0,0;", 2).out(0, 0, 0), 4);
        Check.due("all know it", Check.laid("p0,1;p0,0;s0,2;s0,0;", 2).out(0, 0, 0), 2);
        // not confessed: no half of 1, and no half of 3 together
        OlderByABlush plain = Check.laid("p0,0;p0,0;p0,0;s0,2;s0,0;", 3);
        Check.due("1", plain.out(0, 1, 1), 1);
        Check.due("2", plain.out(0, 2, 1), 2);
        Check.due("3", plain.out(0, 3, 1), 3);
        Check.due("4", plain.out(0, 4, 1), NONE);
        // past D, as far as it takes
        OlderByABlush dies = Check.laid("p9,1;p0,0;p0,0;s0,0;s0,0;d10;", 3);
        Check.due("more than he has left", dies.out(0, 8, 1), 3);
    }

    private static void outAllOthersAlive() {
        Check.sentence("OUT: if all others alive who do not know them learnt them");
        // whether they meet or not; 2 is to die
        OlderByABlush x = Check.laid("p0,0;p0,0;p9,0;p0,0;m1,3;s0,0;s2,2;s1,0;s0,4;d10;", 4);
        Check.due("three others", x.out(0, 3, 1), 1);
        Check.due("two do not know the other", x.out(0, 2, 1), 8);
        Check.due("both", x.out(0, 5, 1), 9);
        x.tell(1, 1, 8);
        Check.due("2 is dead", x.count(1), 3);
        Check.due("two are left, and the lowest of both", x.out(0, 2, 1), 1);
        Check.due("two such", x.out(0, 2, 0), 2);
        Check.due("both", x.out(0, 4, 1), 9);
        Check.due("of the dead", x.out(2, 0, 0), NO);
    }

    private static void outLowestAndNone() {
        Check.sentence("OUT: how many; the lowest; none");
        OlderByABlush x = Check.laid("p0,0;p0,0;s1,0;s0,0;s0,0;s1,0;", 2);
        Check.due("how many by 1", x.out(0, 1, 0), 2);
        Check.due("the lowest by 1", x.out(0, 1, 1), 2);
        Check.due("the other's", x.out(1, 1, 1), 1);
        Check.due("both of the other", x.out(1, 2, 1), 9);
        Check.due("no shades: the empty set", x.out(0, 0, 0) * 10 + x.out(0, 0, 1), 10);
        Check.due("how many, none", x.out(0, 3, 0), 0);
        Check.due("the lowest, none", x.out(0, 3, 1), NONE);
    }

    private static void yearRanges() {
        Check.sentence("A YEAR by z (0 to 9999) of n (1 to 60) steps");
        int[][] let = {{0, 1}, {0, 60}, {9999, 1}, {9999, 60}};
        for (int[] a : let) {
            Check.due("let " + a[0] + " " + a[1], new OlderByABlush().year(a[0], a[1], 0), 0);
        }
        int[][] wrong = {{-1, 1}, {10000, 1}, {0, 0}, {0, 61}, {0, -1}, {-1, 0}};
        for (int[] a : wrong) {
            Check.refused("year " + a[0] + " " + a[1], OlderByABlush::new, x -> x.year(a[0], a[1], 0), BAD);
        }
    }

    /** The draw once more, in numbers that have no bound. */
    private static int draw(int z, int k) {
        BigInteger x = BigInteger.valueOf(7919).multiply(BigInteger.valueOf(z))
                .add(BigInteger.valueOf(6151).multiply(BigInteger.valueOf(k))).add(BigInteger.ONE);
        return x.multiply(x).mod(BigInteger.valueOf(65521)).divide(BigInteger.valueOf(8)).intValueExact();
    }

    private static final String YEARLY = "p0,1;p0,0;p0,4;p0,3;p0,0;p0,1;m0,1;m0,2;m1,2;m1,3;m2,4;m3,5;m4,5;"
            + "s0,6;s1,45;s2,3;s3,62;s0,56;s5,7;s4,9;d14;";

    /** The steps of a year told on a twin by tell, as the document says them. */
    private static OlderByABlush lived(String text, int people, int secrets, int z, int n) {
        OlderByABlush x = Check.laid(text, people);
        for (int k = 0; k < n; k++) {
            int i = draw(z, k) % people;
            int met = x.person(i, 2);
            if (met != 0) {
                x.tell(i, draw(z, k) / 6 % secrets, met);
            }
        }
        return x;
    }

    private static void year(String text, int people, int secrets, int z, int n) {
        OlderByABlush lived = lived(text, people, secrets, z, n);
        int ages = 0;
        for (int i = 0; i < people; i++) {
            ages += lived.person(i, 0);
        }
        OlderByABlush x = Check.laid(text, people);
        Check.due("dead by " + z + " in " + n, x.year(z, n, 0), people - lived.count(1));
        Check.due("ages by " + z + " in " + n, x.year(z, n, 1), ages);
        Check.due("nothing can be undone", x.undo(), NO);
    }

    private static void yearDraws() {
        Check.sentence("DRAW being ((x times x) modulo 65521) by 8, cut, x 7919 z, 6151 k and 1 together");
        for (int z = 0; z < 120; z++) {
            year(YEARLY, 6, 7, z, 1);
            year(YEARLY, 6, 7, 9999 - z, 1);
        }
        Check.sentence("PERSON DRAW modulo as many as there are tells SECRET (DRAW by 6, cut) modulo as many as there are");
        for (int z = 0; z < 10000; z += 397) {
            year("p0,0;s0,0;", 1, 1, z, 3);
            year("p0,1;p0,1;m0,1;s0,0;s1,0;", 2, 2, z, 2);
            year("p0,1;p0,1;p0,0;p0,0;p0,4;m0,2;m0,3;m1,3;m1,4;s0,0;s1,0;s1,1;", 5, 3, z, 2);
            year("p0,1;p0,0;p0,0;m0,1;m0,2;s0,0;s1,1;s2,2;s0,4;s0,0;s1,4;s0,2;s2,0;", 3, 8, z, 2);
        }
    }

    private static void yearSteps() {
        Check.sentence("in step k (0 first); if he is alive and knows it, to all whom he MEETS (his own: CONFESSED)");
        for (int n = 1; n <= 60; n++) {
            year(YEARLY, 6, 7, 0, n);
            year(YEARLY, 6, 7, 9999, n);
            year(YEARLY, 6, 7, 4711, n);
        }
        Check.sentence("YEAR: how many are dead then; how old all are together");
        OlderByABlush x = Check.laid("p9,0;p0,0;p0,0;m1,2;s0,2;s2,0;d10;", 3);
        x.tell(1, 0, 4);
        Check.due("who was dead is dead then", x.year(0, 1, 0), 1);
        Check.due("and as old as he was", x.year(0, 1, 1), 10);
    }

    private static void yearWithoutSecrets() {
        Check.sentence("(none, if there are none)");
        OlderByABlush x = Check.laid("p3,0;p4,0;m0,1;", 2);
        Check.due("nobody dies", x.year(9999, 60, 0), 0);
        Check.due("nobody ages", x.year(9999, 60, 1), 7);
        Check.due("one person", Check.laid("p60,4;", 1).year(0, 1, 1), 60);
    }

    private static void keptTwo() {
        Check.sentence("KEPT: 2 at most");
        Check.refused("back to nothing", OlderByABlush::new, OlderByABlush::back, NO);
        OlderByABlush x = new OlderByABlush();
        Check.due("none", x.count(8), 0);
        Check.due("one", x.keep(), 1);
        x.day();
        Check.due("two", x.keep(), 2);
        x.day();
        Check.due("a third", x.keep(), FULL);
        Check.due("two are kept", x.count(8), 2);
        Check.due("the last", x.back(), 1);
        Check.due("day 1, as the third was not kept", x.count(4), 1);
        Check.due("it is kept no more", x.count(8), 1);
        Check.due("room again", x.keep(), 2);
        Check.due("back", x.back(), 1);
        Check.due("and back", x.back(), 0);
        Check.due("day 0", x.count(4), 0);
        Check.due("no more", x.back(), NO);
    }

    private static void keptWhat() {
        Check.sentence("KEPT are AGES, who knows what, DAYS; nothing is UNDONE then");
        OlderByABlush x = new OlderByABlush();
        x.tell(0, 0, 10);
        x.day();
        String kept = Check.standing(x);
        x.keep();
        Check.due("keeping changes nothing that can be undone", x.count(7), 2);
        x.undo();
        x.day();
        x.day();
        x.witness(1, 1);
        x.seen(2, 2, 2);
        Check.write(x, "p1,");
        Check.due("that can be undone", x.count(7), 3);
        Check.due("back", x.back(), 0);
        Check.same("as it was kept", Check.standing(x), kept);
        int[] counts = {1, 1, 1, 0, 0, 3};
        for (int what = 4; what <= 9; what++) {
            Check.due("count " + what, x.count(what), counts[what - 4]);
        }
        Check.due("nothing is undone", x.undo(), NO);
        Check.same("nothing changes by that", Check.standing(x), kept);
        // what is kept is not what goes on
        OlderByABlush y = new OlderByABlush();
        String first = Check.standing(y);
        y.keep();
        y.keep();
        y.tell(0, 0, 2);
        y.back();
        Check.same("the second", Check.standing(y), first);
        y.tell(0, 0, 2);
        y.back();
        Check.same("the first", Check.standing(y), first);
        // the dead live again
        OlderByABlush z = Check.laid("p9,0;p0,0;p0,0;m1,2;s0,2;d10;", 3);
        z.keep();
        z.tell(1, 0, 4);
        Check.due("dead", z.count(1), 2);
        z.back();
        Check.due("alive", z.count(1), 3);
    }

    private static void calls512() {
        Check.sentence("An object is used for at most 512 calls after it has been made");
        OlderByABlush x = new OlderByABlush();
        for (int k = 1; k <= 511; k++) {
            x.day();
        }
        Check.due("the 512th call", x.count(4), 511);
        OlderByABlush y = new OlderByABlush();
        for (int k = 1; k <= 200; k++) {
            Check.due("call " + k, y.write('d'), k);
        }
        for (int k = 201; k <= 511; k++) {
            Check.due("call " + k, y.write('d'), FULL);
        }
        Check.due("the 512th call", y.wipe(), 200);
    }
}
