/** Promises 8 to 12: tell, day, undo, gossip, first. */
public final class DaysTest {
    private static final int BAD = OlderByABlush.BAD, NO = OlderByABlush.NO, NONE = OlderByABlush.NONE;
    private static final String STAR = ";p0,0;p0,0;p0,0;p0,0;p0,0;m0,1;m0,2;m0,3;m0,4;m0,5;m1,2;m1,3;m1,4;m1,5;s0,2;";

    public static void main(String[] args) {
        cares();
        maskedByOneTelling();
        confessors();
        tellingOfTheDead();
        wrongTellings();
        days();
        undoing();
        gossiping();
        firstDead();
        Check.end();
    }

    private static void cares() {
        int[] told = {4, 8, 0, 3, 4};
        int[] confessed = {2, 4, 0, 1, 2};
        for (int kind = 0; kind < 5; kind++) {
            OlderByABlush x = Check.laid("p10," + kind + STAR, 6);
            Check.due("told of kind " + kind, x.tell(1, 0, 60), 4);
            Check.due("aged of kind " + kind, x.person(0, 0), 10 + told[kind]);
            Check.due("all know it", x.secret(0, 1), 63);
            Check.due("tellers do not age", x.person(1, 0), 0);
            x = Check.laid("p10," + kind + STAR, 6);
            Check.due("confessed of kind " + kind, x.tell(0, 0, 62), 4);
            Check.due("aged by confessing, kind " + kind, x.person(0, 0), 10 + confessed[kind]);
        }
        OlderByABlush y = Check.laid("p10,0" + STAR, 6);
        Check.due("three of a plain one", y.tell(0, 0, 28), 3);
        Check.due("half of three, cut", y.person(0, 0), 11);
        Check.due("one who knows it among them", y.tell(1, 0, 1 + 4 + 32), 1);
        Check.due("one shade more", y.person(0, 0), 12);
        Check.due("those who know it learn nothing", y.tell(1, 0, 60), 0);
        Check.due("and cost nothing", y.person(0, 0), 12);
    }

    private static void maskedByOneTelling() {
        OlderByABlush x = Check.laid("p10,3;p0,0;p0,0;p0,0;p0,0;p0,0;m0,1;m0,2;m0,3;m0,4;m0,5;m1,2;s0,0;", 6);
        Check.due("one by one", x.tell(0, 0, 2), 1);
        Check.due("nobody else knew", x.person(0, 0), 10);
        Check.due("the second", x.tell(1, 0, 4), 1);
        Check.due("one other knew", x.person(0, 0), 10);
        Check.due("the rest", x.tell(0, 0, 56), 3);
        Check.due("three, confessed, cut", x.person(0, 0), 11);
    }

    private static void confessors() {
        OlderByABlush x = Check.laid("p10,2;p1,4;p2,4;p3,4;m1,0;m1,2;m1,3;m0,2;s0,2;s1,0;", 4);
        Check.due("two confessors learn", x.tell(1, 0, 13), 2);
        Check.due("he who told does not age", x.person(1, 0), 1);
        Check.due("a confessor ages", x.person(2, 0), 3);
        Check.due("another one, too", x.person(3, 0), 4);
        Check.due("the rogue does not", x.person(0, 0), 10);
        Check.due("confessed", x.tell(1, 1, 5), 2);
        Check.due("a confessor's own: half of two", x.person(1, 0), 2);
        Check.due("the hearer ages whole", x.person(2, 0), 4);
    }

    private static void tellingOfTheDead() {
        OlderByABlush x = Check.laid("p5,1;p1,0;p1,0;p1,4;m0,1;m1,2;m1,3;s0,2;s1,0;d7;", 4);
        Check.due("told", x.tell(1, 0, 4), 1);
        Check.due("dead by it", x.person(0, 5), 0);
        Check.due("told of a dead one", x.tell(1, 0, 8), 1);
        Check.due("the dead ages no more", x.person(0, 0), 7);
        Check.due("the confessor does", x.person(3, 0), 2);
        Check.due("before a dead one", x.tell(1, 1, 1), BAD);
        Check.due("by a dead one", x.tell(0, 0, 2), BAD);
        // a confessor who dies of what he hears
        OlderByABlush y = Check.laid("p1,0;p6,4;p1,0;m0,1;m1,2;s0,0;d7;", 3);
        Check.due("heard", y.tell(0, 0, 2), 1);
        Check.due("and died", y.count(1), 2);
        Check.due("he knows it", y.person(1, 3), 1);
        Check.due("he tells no more", y.tell(1, 0, 4), BAD);
        // ages go beyond D by one telling, as far as it takes
        OlderByABlush z = Check.laid("p6,1" + STAR.replace("s0,2", "d7;s0,2"), 6);
        Check.due("four at once", z.tell(1, 0, 60), 4);
        Check.due("eight shades at once", z.person(0, 0), 14);
    }

    private static void wrongTellings() {
        OlderByABlush x = new OlderByABlush();
        String ahead = Check.state(x);
        Check.due("no such person", x.tell(5, 0, 1), BAD);
        Check.due("no person below 0", x.tell(-1, 0, 1), BAD);
        Check.due("no such secret", x.tell(0, 5, 2), BAD);
        Check.due("no secret below 0", x.tell(0, -1, 2), BAD);
        Check.due("no set", x.tell(0, 0, 0), BAD);
        Check.due("himself", x.tell(0, 0, 1), BAD);
        Check.due("one whom he does not meet", x.tell(0, 0, 4), BAD);
        Check.due("one of several", x.tell(0, 0, 14), BAD);
        Check.due("one who is not there", x.tell(0, 0, 34), BAD);
        Check.due("below 0", x.tell(0, 0, -1), BAD);
        Check.due("lowest", x.tell(0, 0, Integer.MIN_VALUE), BAD);
        Check.due("BAD ahead of NO", x.tell(2, 0, 1), BAD);
        Check.due("he does not know it", x.tell(2, 0, 2), NO);
        Check.same("nothing changes", Check.state(x), ahead);
    }

    private static void days() {
        // 0 knows no secret of another; 1 tells 0's to 2, the lowest; 2, who knows it by then, tells it to 3
        OlderByABlush x = Check.laid("p10,0;p10,0;p10,0;p10,0;m0,1;m1,2;m1,3;m2,3;s0,2;s1,0;", 4);
        Check.due("the first day", x.day(), 2);
        Check.due("who knows 0", x.secret(0, 1), 15);
        Check.due("his own is not told", x.secret(1, 1), 2);
        Check.due("not confessed", x.person(0, 0), 12);
        Check.due("nothing left", x.day(), 0);
        Check.due("two days", x.count(4), 2);
        // the lowest secret that can be told; of those whom he meets the lowest who does not know it
        OlderByABlush y = Check.laid("p9,0;p9,0;p9,0;p9,0;m0,1;m0,2;m0,3;s1,1;s2,3;s3,1;", 4);
        Check.due("the lowest secret", y.day(), 1);
        Check.due("to the lowest who can learn it", y.secret(0, 1), 7);
        Check.due("not the second", y.secret(1, 1), 7);
        y.day();
        Check.due("the same again", y.secret(0, 1), 15);
        y.day();
        Check.due("then the next", y.secret(1, 1), 15);
        y.day();
        Check.due("then the third", y.secret(2, 1), 11);
        // who died of gossip ahead of his turn does not tell
        OlderByABlush z = Check.laid("p1,0;p6,0;p1,0;m0,2;m1,2;s1,1;s0,2;d7;", 3);
        Check.due("only the first told", z.day(), 1);
        Check.due("1 died ahead of his turn", z.person(1, 5), 0);
        Check.due("2 does not know his tale", z.secret(1, 1), 3);
        Check.due("no others tell the dead", z.day(), 0);
    }

    private static void undoing() {
        OlderByABlush x = new OlderByABlush();
        String[] states = new String[10];
        for (int k = 0; k < 10; k++) {
            states[k] = bare(x);
            if (k == 0) {
                x.tell(0, 0, 10);
            } else {
                x.day();
            }
            Check.due("that can be undone", x.count(7), Math.min(8, k + 1));
        }
        for (int k = 9; k >= 2; k--) {
            Check.due("undone", x.undo(), k - 2);
            Check.same("as it was ahead of " + k, bare(x), states[k]);
        }
        Check.due("no ninth", x.undo(), NO);
        Check.same("nothing changes", bare(x), states[2]);
        OlderByABlush y = new OlderByABlush();
        Check.due("a telling of nothing new", y.tell(0, 1, 2), 0);
        Check.due("can be undone as well", y.undo(), 0);
        y.day();
        y.tell(0, 0, 2);
        Check.due("a telling", y.undo(), 1);
        Check.due("the day stays", y.count(4), 1);
        Check.due("the day", y.undo(), 0);
        Check.due("is gone", y.count(4), 0);
        // what only looks ahead is nothing that can be undone
        y.gossip(5, 0, 0);
        y.first(0);
        y.year(1, 5, 0);
        y.worth(0, 0);
        y.order(-1);
        Check.due("nothing to undo", y.undo(), NO);
    }

    /** The state without how many can be undone. */
    private static String bare(OlderByABlush x) {
        StringBuilder all = new StringBuilder();
        for (int i = 0; i < 5; i++) {
            all.append(x.person(i, 0)).append(' ').append(x.person(i, 3)).append(' ');
        }
        return all.append(x.count(4)).toString();
    }

    private static void gossiping() {
        OlderByABlush x = new OlderByABlush();
        OlderByABlush lived = new OlderByABlush();
        String ahead = Check.state(x);
        for (int n = 0; n <= 12; n++) {
            for (int i = 0; i < 5; i++) {
                Check.due("age by gossip " + n + " " + i, x.gossip(n, i, 0), lived.person(i, 0));
                Check.due("known by gossip " + n + " " + i, x.gossip(n, i, 1), lived.person(i, 3));
            }
            lived.day();
        }
        Check.same("nothing changes", Check.state(x), ahead);
        Check.due("61 days", x.gossip(61, 0, 0), BAD);
        Check.due("-1 days", x.gossip(-1, 0, 0), BAD);
        Check.due("no such person", x.gossip(1, 5, 0), BAD);
        Check.due("no person below 0", x.gossip(1, -1, 0), BAD);
        Check.due("what 2", x.gossip(1, 0, 2), BAD);
        Check.due("what -1", x.gossip(1, 0, -1), BAD);
    }

    private static void firstDead() {
        // on day 1 0 tells 3's secret to 1: 3 dies; on the same day 1 tells 2's to 0: 2 dies
        OlderByABlush x = Check.laid("p1,0;p1,0;p6,0;p6,0;m0,1;s3,1;s2,2;d7;", 4);
        Check.due("the lowest of one day", x.first(0), 2);
        Check.due("on day 1", x.first(1), 1);
        Check.due("nothing changes", x.count(1), 4);
        x.day();
        Check.due("both are dead", x.count(1), 2);
        Check.due("no more die", x.first(0), NONE);
        Check.due("no day", x.first(1), NONE);
        Check.due("what 2", x.first(2), BAD);
        Check.due("what -1", x.first(-1), BAD);
        // 1 shade a day: 0's secret goes from 1 to 2, 3, 4, who meet nobody but 1
        OlderByABlush y = Check.laid("p4,0;p1,0;p1,0;p1,0;p1,0;m1,2;m1,3;m1,4;s0,2;d7;", 5);
        Check.due("who", y.first(0), 0);
        Check.due("on day 3", y.first(1), 3);
        y.day();
        Check.due("a day later by one day less", y.first(1), 2);
    }
}
