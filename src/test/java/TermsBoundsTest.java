/** "Terms", up to the DAYS: what is LAID, what the dead do no more, CARE, halves, GOSSIP, what can be UNDONE. */
public final class TermsBoundsTest {
    private static final int BAD = OlderByABlush.BAD, NO = OlderByABlush.NO, NONE = OlderByABlush.NONE;
    /** 0, whose secret 1 knows; 1 meets all, 0 meets 1; to be put behind a first person. */
    private static final String BY_ONE = ";p0,0;p0,0;p0,0;p0,0;p0,0;m0,1;m1,2;m1,3;m1,4;m1,5;";
    /** 0 meets all, who meet nobody else; to be put behind a first person. */
    private static final String BY_HIMSELF = ";p0,0;p0,0;p0,0;p0,0;p0,0;m0,1;m0,2;m0,3;m0,4;m0,5;";

    public static void main(String[] args) {
        laidOfAPersonAtLeast();
        laidYoungerThanDeath();
        atFirst();
        deadAtDeath();
        theDeadMeetNobody();
        theDeadTellNoMore();
        theDeadLearnNoMore();
        theDeadAgeNoMore();
        careOfEachKind();
        maskedByOthersAhead();
        maskedByTheSameTelling();
        learnersAlone();
        halfOfAllCut();
        confessorsLearn();
        dayAliveAtHisTurn();
        dayKnownByThen();
        dayNotHisOwn();
        dayLowest();
        dayNothing();
        undoneLatest();
        undoneLastEight();
        gossipDays();
        firstOfOneDay();
        firstDayAndLast();
        firstNone();
        Check.end();
    }

    private static void notLaid(String text) {
        Check.refused("lay of " + text, () -> {
            OlderByABlush x = new OlderByABlush();
            x.tell(0, 0, 2);
            x.keep();
            x.day();
            x.witness(0, 1);
            x.seen(0, 2, 2);
            Check.write(x, text);
            return x;
        }, OlderByABlush::lay, NO);
    }

    private static void laidOfAPersonAtLeast() {
        Check.sentence("LAID is a TEXT without FAULT, of a PERSON at least");
        notLaid("");
        notLaid("d50;");
        notLaid("p");
        notLaid("p1,0;x");
        OlderByABlush x = Check.laid("p1,0;", 1);
        Check.due("one person", x.count(0), 1);
        Check.due("without secrets", x.count(2), 0);
    }

    private static void laidYoungerThanDeath() {
        Check.sentence("LAID: all younger than D (NO else)");
        Check.laid("p49,0;d50;", 1);
        notLaid("p50,0;d50;");
        notLaid("p51,0;d50;");
        notLaid("d50;p50,0;");
        Check.laid("p0,0;d1;", 1);
        notLaid("p1,0;d1;");
        Check.laid("p60,0;d61;", 1);
        notLaid("p60,0;d60;");
        Check.laid("p60,0;", 1);
        // one of six, wherever he stands
        for (int i = 0; i < 6; i++) {
            String others = "p9,0;".repeat(i) + "p%d,0;" + "p9,0;".repeat(5 - i) + "d10;";
            Check.laid(String.format(others, 9), 6);
            notLaid(String.format(others, 10));
        }
        // only those of this text: nobody of one that was laid or looked at ahead
        OlderByABlush x = Check.laid("p1,0;p50,0;", 2);
        x.wipe();
        Check.write(x, "p1,0;d20;");
        Check.due("one of an earlier text was older", x.lay(), 1);
        x.wipe();
        Check.write(x, "p1,0;p60,0;p60,0;x");
        x.fault();
        x.wipe();
        Check.write(x, "p1,0;d20;");
        Check.due("one of a text with a fault was older", x.lay(), 1);
    }

    private static void atFirst() {
        Check.sentence("at first p20,0;p5,1;p30,2; ..");
        OlderByABlush told = Check.laid(Check.FIRST_VILLAGE, 5);
        told.wipe();
        Check.same("a new object", Check.state(new OlderByABlush()), Check.state(told));
        Check.same("and what was", Check.history(new OlderByABlush()), Check.history(told));
    }

    /** 0 is of an age and dies at 10; 1 tells two of his secrets, 2 and 3 learn them. */
    private static OlderByABlush dying(int age, int kind) {
        return Check.laid("p" + age + "," + kind + ";p0,0;p0,0;p0,0;p0,4;m0,1;m0,2;m1,2;m1,3;m1,4;m3,4;"
                + "s0,2;s0,2;s1,0;s0,0;d10;", 5);
    }

    private static void deadAtDeath() {
        Check.sentence("Who is at AGE D or more is dead");
        OlderByABlush below = dying(8, 0);
        below.tell(1, 0, 4);
        Check.due("at 9", below.person(0, 0), 9);
        Check.due("alive", below.person(0, 5), 1);
        Check.due("all are", below.count(1), 5);
        OlderByABlush at = dying(9, 0);
        at.tell(1, 0, 4);
        Check.due("at 10", at.person(0, 0), 10);
        Check.due("dead", at.person(0, 5), 0);
        Check.due("four are alive", at.count(1), 4);
        OlderByABlush above = dying(9, 1);
        above.tell(1, 0, 4 + 8 + 16);
        Check.due("at 15, by one telling", above.person(0, 0), 15);
        Check.due("dead as well", above.person(0, 5), 0);
        Check.due("there are as many", above.count(0), 5);
    }

    private static OlderByABlush dead() {
        OlderByABlush x = dying(9, 0);
        x.tell(1, 0, 4);
        return x;
    }

    private static void theDeadMeetNobody() {
        Check.sentence("dead: MEETS nobody");
        OlderByABlush x = dying(9, 0);
        Check.due("whom 0 meets ahead of it", x.person(0, 2), 6);
        x.tell(1, 0, 4);
        Check.due("whom he meets dead", x.person(0, 2), 0);
        Check.due("whom 1 meets", x.person(1, 2), 28);
        Check.due("whom 2 meets", x.person(2, 2), 2);
        x.undo();
        Check.due("alive again, he meets them", x.person(0, 2), 6);
        Check.due("and they him", x.person(2, 2), 3);
    }

    private static void theDeadTellNoMore() {
        Check.sentence("dead: tells no more");
        Check.refused("tell of a dead one", TermsBoundsTest::dead, x -> x.tell(0, 3, 2), BAD);
        Check.due("worth of his telling", dead().worth(0, 3), NO);
        Check.due("no chain begins with him", dead().reach(3, 1), NONE);
        Check.due("nothing is to be forbidden", dead().apart(3, 1), 0);
        OlderByABlush x = Check.laid("p9,0;p0,0;p0,0;p0,0;m0,1;m0,3;m2,1;s0,4;s3,1;d10;", 4);
        Check.due("alive he gossips", x.gossip(1, 1, 1), 3);
        x.tell(2, 0, 2);
        Check.due("dead he does not", x.day(), 0);
        Check.due("nobody learns of 3", x.secret(1, 1), 9);
        x.witness(0, 1);
        x.witness(1, 0);
        Check.due("as a witness he tells nothing", x.order(-1), 0);
        Check.due("so the first order is as good", x.order(0), 0);
        // in a year he would tell first: x is 1, DRAW 0
        OlderByABlush y = Check.laid("p9,1;p0,0;p0,0;m0,1;m0,2;s0,0;s0,2;d10;", 3);
        Check.due("alive he tells in a year", y.year(0, 1, 1), 11);
        y.tell(0, 1, 4);
        Check.due("dead", y.person(0, 5), 0);
        Check.due("dead he does not tell", y.year(0, 1, 1), 10);
    }

    private static void theDeadLearnNoMore() {
        Check.sentence("dead: learns no more");
        Check.refused("tell before a dead one", TermsBoundsTest::dead, x -> x.tell(1, 2, 1), BAD);
        Check.refused("tell before a dead one among others", TermsBoundsTest::dead, x -> x.tell(1, 2, 13), BAD);
        Check.due("tell before the others", dead().tell(1, 2, 12), 2);
        // only 0, who is dead, could learn what 1 knows of 2
        OlderByABlush x = Check.laid("p9,0;p0,0;p0,0;p0,0;m0,1;m1,3;s2,10;s0,2;d10;", 4);
        Check.due("alive he learns it by gossip", x.gossip(1, 0, 1), 3);
        x.tell(1, 1, 8);
        Check.due("dead he does not", x.gossip(60, 0, 1), 2);
        Check.due("nobody does", x.day(), 0);
        x.witness(1, 0);
        x.witness(0, 1);
        Check.due("nor as a witness", x.order(-1) * 10 + x.order(0), 0);
        Check.due("nor if all came out: 1 and 3 know it", x.out(2, 0, 0), 2);
        Check.due("reach of a dead one", x.reach(0, 0), NO);
        Check.due("all of a dead one", x.all(1, 0), NO);
        Check.due("apart of a dead one", x.apart(0, 0), NO);
    }

    private static void theDeadAgeNoMore() {
        Check.sentence("dead: ages no more");
        OlderByABlush x = dead();
        Check.due("told on", x.tell(1, 0, 8), 1);
        Check.due("he is as old as he was", x.person(0, 0), 10);
        Check.due("the confessor learns it", x.tell(1, 0, 16), 1);
        Check.due("and ages", x.person(4, 0), 1);
        Check.due("gossip of him", x.gossip(60, 0, 0), 10);
        Check.due("his secret is worth nothing", x.worth(1, 1), 0);
        Check.due("it comes to another by no shade", x.reach(1, 3), 0);
        Check.due("to the confessor by his own", x.reach(1, 4), 1);
        Check.due("out of the dead", x.out(0, 0, 0), NO);
        // as witnesses: 1 ahead of 2, then 2 ahead of 3, or the other way round: nothing grows
        x.witness(1, 1);
        x.witness(3, 2);
        Check.due("nothing grows", x.order(-1), 0);
        Check.due("by the first order", x.order(0), 0);
    }

    private static void careOfEachKind() {
        Check.sentence("CARE: 1 of a PLAIN one, of a CONFESSOR, 2 of a SHY one, 0 of a ROGUE");
        int[] care = {1, 2, 0, 0, 1};
        for (int kind = 0; kind < 5; kind++) {
            OlderByABlush x = Check.laid("p7," + kind + BY_ONE + "s0,2;", 6);
            Check.due("one learns it", x.tell(1, 0, 4), 1);
            Check.due("care of kind " + kind, x.person(0, 0), 7 + care[kind]);
        }
    }

    private static void maskedByOthersAhead() {
        Check.sentence("of a MASKED one 1, if two others or more know it ahead of that, else 0");
        // how many others know it ahead of the one who learns: one is the least, as one of them tells it
        int[] knowers = {2, 2 + 8, 2 + 8 + 16, 2 + 8 + 16 + 32};
        int[] care = {0, 1, 1, 1};
        for (int k = 0; k < knowers.length; k++) {
            OlderByABlush x = Check.laid("p7,3" + BY_ONE + "s0," + knowers[k] + ";", 6);
            Check.due("worth with " + (k + 1) + " others", x.tell(1, 0, 4), 1);
            Check.due("care with " + (k + 1) + " others", x.person(0, 0), 7 + care[k]);
        }
        // none ahead: he confesses, to two of whom two others know, so that no half is cut
        OlderByABlush none = Check.laid("p7,3" + BY_HIMSELF + "s0,0;s0,24;s0,8;", 6);
        none.tell(0, 0, 6);
        Check.due("none and one other ahead", none.person(0, 0), 7);
        none.tell(0, 1, 6);
        Check.due("two and three others ahead", none.person(0, 0), 8);
        none.tell(0, 2, 6);
        Check.due("one and two others ahead, half of one", none.person(0, 0), 8);
        // he himself is no other, and is named in K to no end
        OlderByABlush himself = Check.laid("p7,3" + BY_ONE + "s0,3;", 6);
        himself.tell(1, 0, 4);
        Check.due("he is no other", himself.person(0, 0), 7);
        // the dead know what they know
        OlderByABlush dead = Check.laid("p7,3;p0,0;p9,0;p0,0;m1,3;s0,6;s2,2;d10;", 4);
        dead.tell(1, 1, 8);
        Check.due("2 is dead", dead.person(2, 5), 0);
        dead.tell(1, 0, 8);
        Check.due("but he knew it", dead.person(0, 0), 8);
    }

    private static void maskedByTheSameTelling() {
        Check.sentence("know it ahead of that (by the same TELLING, too)");
        int[] sets = {4, 12, 28, 60};
        int[] care = {0, 1, 2, 3};
        for (int k = 0; k < sets.length; k++) {
            OlderByABlush x = Check.laid("p7,3" + BY_ONE + "s0,2;", 6);
            Check.due("so many at once", x.tell(1, 0, sets[k]), k + 1);
            Check.due("care for " + (k + 1), x.person(0, 0), 7 + care[k]);
        }
        int[] confessed = {0, 0, 0, 1, 1};
        for (int k = 0; k < 5; k++) {
            OlderByABlush x = Check.laid("p7,3" + BY_HIMSELF + "s0,0;", 6);
            x.tell(0, 0, (1 << k + 2) - 2);
            Check.due("confessed before " + (k + 1), x.person(0, 0), 7 + confessed[k]);
        }
    }

    private static void learnersAlone() {
        Check.sentence("those who do not know it learn it");
        OlderByABlush x = Check.laid("p7,1" + BY_ONE + "s0,10;", 6);
        Check.due("three of four and the one whose it is", x.tell(1, 0, 61), 3);
        Check.due("care for three", x.person(0, 0), 13);
        Check.due("all know it", x.secret(0, 1), 63);
        Check.due("nobody is left", x.tell(1, 0, 61), 0);
        Check.due("no care", x.person(0, 0), 13);
    }

    private static void halfOfAllCut() {
        Check.sentence("if he told it himself (CONFESSED), by half of all that, cut");
        int[][] shades = {{0, 1, 1, 2, 2}, {1, 2, 3, 4, 5}, {0, 0, 0, 0, 0}, {0, 0, 0, 1, 1}, {0, 1, 1, 2, 2}};
        for (int kind = 0; kind < 5; kind++) {
            for (int many = 1; many <= 5; many++) {
                OlderByABlush x = Check.laid("p7," + kind + BY_HIMSELF + "s0,0;", 6);
                x.tell(0, 0, (1 << many + 1) - 2);
                Check.due("kind " + kind + " before " + many, x.person(0, 0), 7 + shades[kind][many - 1]);
            }
        }
        // half of each telling, not of all tellings
        OlderByABlush x = Check.laid("p7,0" + BY_HIMSELF + "s0,0;", 6);
        for (int j = 1; j < 6; j++) {
            x.tell(0, 0, 1 << j);
            Check.due("one by one", x.person(0, 0), 7);
        }
    }

    private static void confessorsLearn() {
        Check.sentence("each CONFESSOR who has learnt it ages by 1");
        OlderByABlush x = Check.laid("p0,2;p1,4;p2,4;p3,4;p4,0;m0,1;m0,2;m0,3;m0,4;s0,4;", 5);
        Check.due("two of three learn it, and another", x.tell(0, 0, 30), 3);
        int[] ages = {0, 2, 2, 4, 4};
        for (int i = 0; i < ages.length; i++) {
            Check.due("age of " + i, x.person(i, 0), ages[i]);
        }
        // whoever he is, alone and by gossip
        for (int i = 0; i < 6; i++) {
            String people = "p0,0;".repeat(i) + "p0,4;" + "p0,0;".repeat(5 - i);
            int teller = i == 5 ? 4 : 5;
            int owner = i == 0 ? 1 : 0;
            String rest = "m" + teller + "," + i + ";s" + owner + "," + (1 << teller) + ";";
            OlderByABlush told = Check.laid(people + rest, 6);
            Check.due("confessor " + i + " learns it", told.tell(teller, 0, 1 << i), 1);
            Check.due("confessor " + i + " told", told.person(i, 0), 1);
            Check.due("confessor " + i + " by gossip", Check.laid(people + rest, 6).gossip(1, i, 0), 1);
        }
        // not by half, if it is confessed to him; he who confesses ages by half of his care
        OlderByABlush y = Check.laid("p0,4;p0,4;m0,1;s0,0;", 2);
        y.tell(0, 0, 2);
        Check.due("half of 1, cut", y.person(0, 0), 0);
        Check.due("a whole one", y.person(1, 0), 1);
        // he dies of it, but has learnt it
        OlderByABlush z = Check.laid("p0,0;p9,4;m0,1;s0,0;d10;", 2);
        Check.due("learnt", z.tell(0, 0, 2), 1);
        Check.due("and dead", z.person(1, 5) * 10 + z.person(1, 3), 1);
    }

    private static void dayAliveAtHisTurn() {
        Check.sentence("each who is alive at his turn, 0 first");
        // 0 tells of 1, who dies of it, and would have told of 3
        OlderByABlush x = Check.laid("p0,0;p9,0;p0,0;p0,0;m0,2;m1,2;s1,1;s3,2;d10;", 4);
        Check.due("one told", x.day(), 1);
        Check.due("1 is dead", x.person(1, 5), 0);
        Check.due("what he knew is not told", x.secret(1, 1), 10);
        // by one shade less he lives and tells it
        OlderByABlush y = Check.laid("p0,0;p8,0;p0,0;p0,0;m0,2;m1,2;s1,1;s3,2;d10;", 4);
        Check.due("three told, as 2 tells 0 what he heard of 1", y.day(), 3);
        Check.due("what he knew is told", y.secret(1, 1), 15);
        // who dies behind his turn has told
        OlderByABlush z = Check.laid("p9,0;p0,0;p0,0;p0,0;m0,2;m1,2;s0,2;s3,1;d10;", 4);
        Check.due("three told, as 2 tells 1 what he heard of 0", z.day(), 3);
        Check.due("0 is dead", z.person(0, 5), 0);
        Check.due("but has told", z.secret(1, 1), 15);
        // one dies of what is told to another: he is met no more on the same day
        OlderByABlush w = Check.laid("p0,0;p0,0;p9,0;p0,0;m0,3;m1,2;s2,1;s3,2;d10;", 4);
        Check.due("nobody is left to be told of 3", w.day(), 1);
    }

    private static void dayKnownByThen() {
        Check.sentence("tells a SECRET that he knows by then");
        // down the line it runs in one day, up the line a step a day
        OlderByABlush down = Check.laid("p0,2;p0,0;p0,0;p0,0;p0,0;p0,0;m1,2;m2,3;m3,4;m4,5;s0,2;", 6);
        Check.due("all in a day", down.day(), 4);
        OlderByABlush up = Check.laid("p0,0;p0,0;p0,0;p0,0;p0,0;p0,2;m0,1;m1,2;m2,3;m3,4;s5,16;", 6);
        for (int d = 1; d <= 4; d++) {
            Check.due("one on day " + d, up.day(), 1);
        }
        Check.due("then none", up.day(), 0);
    }

    private static void dayNotHisOwn() {
        Check.sentence("and that is not his own");
        OlderByABlush x = Check.laid("p0,0;p0,0;m0,1;s0,0;", 2);
        Check.due("his own is not told", x.day(), 0);
        OlderByABlush y = Check.laid("p0,0;p0,0;p0,0;m0,1;m1,2;s0,0;s1,1;s2,1;", 3);
        Check.due("the first that is not his own and that 1 does not know", y.day(), 1);
        Check.due("not 0", y.secret(0, 1), 1);
        Check.due("not 1", y.secret(1, 1), 3);
        Check.due("2", y.secret(2, 1), 7);
    }

    private static void dayLowest() {
        Check.sentence("alone: the lowest SECRET that he can tell so, the lowest one to whom");
        OlderByABlush x = Check.laid("p0,2;p0,2;p0,0;p0,0;p0,0;m2,3;m2,4;s0,28;s0,12;s1,4;", 5);
        // secret 0 all know whom 2 meets, secret 1 only 4 does not know, secret 2 both
        Check.due("2 tells 4 of secret 1", x.day(), 1);
        Check.due("secret 1", x.secret(1, 1), 29);
        Check.due("2 tells 3 of secret 2; 3 tells nobody", x.day(), 1);
        Check.due("secret 2, to 3", x.secret(2, 1), 14);
        Check.due("2 tells 4", x.day(), 1);
        Check.due("secret 2, to 4", x.secret(2, 1), 30);
        Check.due("nothing is left", x.day(), 0);
    }

    private static void dayNothing() {
        Check.sentence("nothing, if there is none");
        OlderByABlush alone = Check.laid("p0,0;", 1);
        Check.due("one person", alone.day(), 0);
        Check.due("the day is over all the same", alone.count(4), 1);
        Check.due("and can be undone", alone.undo(), 0);
        Check.due("day 0", alone.count(4), 0);
        Check.due("nobody meets", Check.laid("p0,0;p0,0;s0,2;", 2).day(), 0);
        Check.due("no secrets", Check.laid("p0,0;p0,0;m0,1;", 2).day(), 0);
    }

    private static void undoneLatest() {
        Check.sentence("UNDONE is the latest TELLING, DAY");
        OlderByABlush x = new OlderByABlush();
        Check.refused("undo of nothing", OlderByABlush::new, OlderByABlush::undo, NO);
        String first = Check.standing(x);
        x.tell(0, 0, 10);
        String second = Check.standing(x);
        x.day();
        Check.due("the day", x.undo(), 1);
        Check.same("as behind the telling", Check.standing(x), second);
        Check.due("the telling", x.undo(), 0);
        Check.same("as at first", Check.standing(x), first);
        Check.due("nothing more", x.undo(), NO);
        // what is refused is no telling, what teaches nobody is one
        x.tell(0, 0, 0);
        x.tell(2, 0, 2);
        Check.due("refused", x.undo(), NO);
        Check.due("0 and 1 know it", x.tell(0, 1, 2), 0);
        Check.due("a telling all the same", x.undo(), 0);
        // witnesses, what is seen, what is kept, the text are not undone
        x.day();
        x.witness(0, 0);
        x.seen(0, 1, 1);
        x.keep();
        x.write('p');
        Check.due("undone", x.undo(), 0);
        int[] stay = {0, 1, 1, 0, 1, 1};
        for (int what = 4; what <= 9; what++) {
            Check.due("count " + what, x.count(what), stay[what - 4]);
        }
    }

    private static void undoneLastEight() {
        Check.sentence("(the last 8 can be)");
        for (int many = 1; many <= 20; many++) {
            OlderByABlush x = new OlderByABlush();
            for (int k = 0; k < many; k++) {
                if (k % 3 == 1) {
                    x.tell(0, 0, 2);
                } else {
                    x.day();
                }
            }
            int can = Math.min(8, many);
            Check.due("of " + many, x.count(7), can);
            for (int left = can - 1; left >= 0; left--) {
                Check.due("undone of " + many, x.undo(), left);
            }
            Check.due("no more of " + many, x.undo(), NO);
            int days = 0;
            for (int k = 0; k < many - can; k++) {
                days += k % 3 == 1 ? 0 : 1;
            }
            Check.due("days left of " + many, x.count(4), days);
        }
        // undone and gone on: again the last 8
        OlderByABlush x = new OlderByABlush();
        for (int k = 0; k < 10; k++) {
            x.day();
        }
        x.undo();
        x.undo();
        Check.due("eight days", x.count(4), 8);
        for (int k = 0; k < 5; k++) {
            x.day();
        }
        Check.due("eight can be", x.count(7), 8);
        for (int left = 7; left >= 0; left--) {
            Check.due("undone", x.undo(), left);
        }
        Check.due("back at day 5", x.count(4), 5);
        Check.due("no more", x.undo(), NO);
    }

    private static void gossipDays() {
        Check.sentence("GOSSIP for n DAYS (0 to 60)");
        for (int n = 0; n <= 60; n++) {
            OlderByABlush x = new OlderByABlush();
            OlderByABlush lived = new OlderByABlush();
            for (int d = 0; d < n; d++) {
                lived.day();
            }
            for (int i = 0; i < 5; i++) {
                Check.due("age of " + i + " in " + n, x.gossip(n, i, 0), lived.person(i, 0));
                Check.due("known to " + i + " in " + n, x.gossip(n, i, 1), lived.person(i, 3));
            }
            Check.due("no day has gone", x.count(4), 0);
        }
        Check.refused("61 days", OlderByABlush::new, x -> x.gossip(61, 0, 0), BAD);
        Check.refused("-1 days", OlderByABlush::new, x -> x.gossip(-1, 0, 0), BAD);
        // who is dead already, and one who dies on the way
        OlderByABlush x = dead();
        Check.due("age of the dead", x.gossip(60, 0, 0), 10);
        Check.due("known to the dead", x.gossip(60, 0, 1), 11);
        Check.due("a day in which one dies", dying(9, 1).gossip(1, 0, 0), 11);
        Check.due("the rest of the days", dying(9, 1).gossip(60, 0, 0), 11);
    }

    private static void firstOfOneDay() {
        Check.sentence("FIRST: who dies first in 60 DAYS (of several on one DAY the lowest)");
        // 0 tells 1 of 3, 1 tells 0 of 2: both die on day 1, 3 ahead of 2
        OlderByABlush both = Check.laid("p0,0;p0,0;p9,0;p9,0;m0,1;s3,1;s2,2;d10;", 4);
        Check.due("the lowest of them", both.first(0), 2);
        Check.due("on day 1", both.first(1), 1);
        // 3 dies on day 1, 2 not before the next
        OlderByABlush apart = Check.laid("p0,0;p0,0;p8,0;p9,0;p0,0;m0,1;m0,4;m1,4;s3,1;s2,2;d10;", 5);
        Check.due("the first, though not the lowest", apart.first(0), 3);
        Check.due("on day 1 as well", apart.first(1), 1);
        Check.due("nobody has died", both.count(1) * 10 + apart.count(1), 45);
        // who is dead already does not die first
        apart.day();
        Check.due("3 is dead", apart.person(3, 5), 0);
        Check.due("2 is next", apart.first(0), 2);
    }

    private static void firstDayAndLast() {
        Check.sentence("FIRST: on which DAY (1 the first)");
        // 0 tells one of 1 to 4 something of 5 each day: 32 days, and 5 is a shade older by each
        String star = "p0,0;p0,0;p0,0;p0,0;p0,0;p%d,0;m0,1;m0,2;m0,3;m0,4;" + "s5,1;".repeat(8) + "d92;";
        OlderByABlush last = Check.laid(String.format(star, 60), 6);
        Check.due("who dies on the last day on which anything is told", last.first(0), 5);
        Check.due("on day 32", last.first(1), 32);
        for (int d = 1; d <= 31; d++) {
            last.day();
        }
        Check.due("alive on day 31", last.count(1), 6);
        Check.due("tomorrow is day 1", last.first(1), 1);
        last.day();
        Check.due("dead on day 32", last.count(1), 5);
        Check.due("dead, he dies no more", last.first(0), NONE);
        OlderByABlush spared = Check.laid(String.format(star, 59), 6);
        Check.due("a shade younger nobody dies", spared.first(0), NONE);
        Check.due("nor is there a day", spared.first(1), NONE);
    }

    private static void firstNone() {
        Check.sentence("FIRST: none");
        Check.due("at first: who", new OlderByABlush().first(0), NONE);
        Check.due("at first: the day", new OlderByABlush().first(1), NONE);
        Check.due("one person", Check.laid("p0,0;d1;", 1).first(0), NONE);
        Check.refused("what 2, though there is none", OlderByABlush::new, x -> x.first(2), BAD);
        Check.refused("what -1, though there is none", OlderByABlush::new, x -> x.first(-1), BAD);
    }
}
