/** Promises 1 to 7: a new object, write, wipe, fault, lay, person, secret. */
public final class VillagesTest {
    private static final int BAD = OlderByABlush.BAD, NO = OlderByABlush.NO;
    private static final int FULL = OlderByABlush.FULL, NONE = OlderByABlush.NONE;

    public static void main(String[] args) {
        newObject();
        writing();
        wiping();
        faults();
        laying();
        persons();
        secrets();
        Check.end();
    }

    private static void newObject() {
        OlderByABlush x = new OlderByABlush();
        int[] counts = {5, 5, 5, 80, 0, 0, 0, 0, 0, 0};
        for (int what = 0; what < counts.length; what++) {
            Check.due("new count " + what, x.count(what), counts[what]);
        }
        Check.due("new fault", x.fault(), NONE);
        Check.due("new lay", x.lay(), NO);
        Check.due("new undo", x.undo(), NO);
        Check.due("new back", x.back(), NO);
        Check.due("new wipe", x.wipe(), 0);
        OlderByABlush told = Check.laid(
                "p20,0;p5,1;p30,2;p8,4;p12,3;m0,1;m1,2;m2,3;m0,3;m3,4;s0,0;s1,1;s2,0;s4,8;s0,16;", 5);
        told.wipe();
        Check.same("the first village", Check.state(x), Check.state(told));
    }

    private static void writing() {
        OlderByABlush x = new OlderByABlush();
        int[] bad = {31, 127, 0, -1, 10, 256 + 65, Integer.MIN_VALUE, Integer.MAX_VALUE};
        for (int letter : bad) {
            Check.due("write " + letter, x.write(letter), BAD);
        }
        Check.due("nothing written", x.count(9), 0);
        Check.due("write 32", x.write(32), 1);
        Check.due("write 126", x.write(126), 2);
        for (int k = 3; k <= 200; k++) {
            Check.due("write the " + k + "th", x.write(65 + k % 20), k);
        }
        Check.due("write the 201st", x.write(65), FULL);
        Check.due("write a bad 201st", x.write(31), BAD);
        Check.due("still 200", x.count(9), 200);
        Check.due("wipe 200", x.wipe(), 200);
        Check.due("write again", x.write(112), 1);
        // a text of just 200 letters is read to its end
        OlderByABlush y = new OlderByABlush();
        Check.write(y, "p01,0;p02,1;p3,2;");
        Check.write(y, "d99;".repeat(45));
        Check.due("197 letters", y.count(9), 197);
        Check.write(y, "d7;");
        Check.due("200 letters", y.count(9), 200);
        Check.due("200 letters without fault", y.fault(), NONE);
        Check.due("200 letters laid", y.lay(), 3);
        Check.due("the last d counts", y.count(3), 7);
    }

    private static void wiping() {
        OlderByABlush x = Check.laid("p1,0;p2,1;", 2);
        Check.due("wipe", x.wipe(), 10);
        Check.due("wipe again", x.wipe(), 0);
        Check.due("no letters", x.count(9), 0);
        Check.due("the village stays", x.count(0), 2);
        Check.due("an empty text has no fault", x.fault(), NONE);
    }

    private static void fault(String text, int want) {
        OlderByABlush x = new OlderByABlush();
        Check.write(x, text);
        String ahead = Check.state(x);
        Check.due("fault of " + text, x.fault(), want);
        Check.same("fault changes nothing", Check.state(x), ahead);
        if (want != NONE) {
            Check.due("lay with a fault of " + text, x.lay(), NO);
            Check.same("lay with a fault changes nothing", Check.state(x), ahead);
        }
    }

    private static void faults() {
        fault("", NONE);
        fault("p0,0;", NONE);
        fault("p60,4;", NONE);
        fault("p61,4;", 0);
        fault("p60,5;", 0);
        fault("p05,04;", NONE);
        fault("p005,0;", 0);
        fault("p5,000;", 0);
        fault("p5;", 0);
        fault("p5,;", 0);
        fault("p,5;", 0);
        fault("p5,0,0;", 0);
        fault("p5,0", 0);
        fault("p5,0;p5,0", 5);
        fault("p5,0;p", 5);
        fault("p5,0;;", 5);
        fault("p5,0; ", 5);
        fault(" p5,0;", 0);
        fault("p5 ,0;", 0);
        fault("p-5,0;", 0);
        fault("P5,0;", 0);
        fault("p5.0;", 0);
        fault("x5,0;", 0);
        fault("p5,0:", 0);
        fault("p1,0;p1,0;p1,0;p1,0;p1,0;p1,0;", NONE);
        fault("p1,0;p1,0;p1,0;p1,0;p1,0;p1,0;p1,0;", 30);
        fault("m0,1;p1,0;p1,0;", 0);
        fault("p1,0;m0,1;p1,0;", 5);
        fault("p1,0;m1,0;p1,0;", 5);
        fault("p1,0;p1,0;m0,1;m1,0;m0,1;m00,01;", NONE);
        fault("p1,0;p1,0;m1,1;", 10);
        fault("p1,0;p1,0;m0,2;", 10);
        fault("s0,0;p1,0;", 0);
        fault("p1,0;s1,0;", 5);
        fault("p1,0;s0,63;p1,0;", NONE);
        fault("p1,0;s0,64;", 5);
        fault("p1,0;s0,0;s0,0;s0,0;s0,0;s0,0;s0,0;s0,0;s0,0;", NONE);
        fault("p1,0;s0,0;s0,0;s0,0;s0,0;s0,0;s0,0;s0,0;s0,0;s0,0;", 45);
        fault("d0;", 0);
        fault("d00;", 0);
        fault("d1;", NONE);
        fault("d99;", NONE);
        fault("d100;", 0);
        fault("d5,5;", 0);
        fault("d;", 0);
        fault("d", 0);
        fault("d5;d6;e7;", 6);
    }

    private static void laying() {
        refused("d50;");
        refused("p10,0;p20,0;d20;");
        refused("d10;p10,0;");
        OlderByABlush x = Check.laid("p10,0;p19,0;d20;", 2);
        Check.due("D", x.count(3), 20);
        Check.due("the text stays", x.count(9), 16);
        Check.due("laid again", x.lay(), 2);
        x = Check.laid("p19,0;d5;d20;", 1);
        Check.due("the last d", x.count(3), 20);

        OlderByABlush y = new OlderByABlush();
        y.tell(0, 0, 2);
        y.day();
        y.keep();
        y.witness(0, 0);
        y.seen(0, 1, 1);
        Check.write(y, "p20,0;p5,1;p30,2;p8,4;p12,3;m0,1;m1,2;m2,3;m0,3;m3,4;s0,0;s1,1;s2,0;s4,8;s0,16;");
        Check.due("lay over all that", y.lay(), 5);
        y.wipe();
        Check.same("lay begins anew", Check.state(y), Check.state(new OlderByABlush()));
        Check.due("nothing to undo", y.undo(), NO);
        Check.due("nothing kept", y.back(), NO);
        // a smaller village leaves nothing of the larger one
        Check.write(y, "p1,0;p1,0;");
        Check.due("a smaller one", y.lay(), 2);
        Check.due("no third", y.person(2, 0), BAD);
        Check.due("no meetings are left", y.person(0, 2), 0);
        Check.due("no secrets are left", y.secret(0, 0), BAD);
    }

    private static void refused(String text) {
        OlderByABlush x = new OlderByABlush();
        Check.write(x, text);
        x.day();
        x.keep();
        String ahead = Check.state(x);
        Check.due("no fault in " + text, x.fault(), NONE);
        Check.due("lay of " + text, x.lay(), NO);
        Check.same("nothing changes", Check.state(x), ahead);
    }

    private static void persons() {
        OlderByABlush x = Check.laid("p9,1;p60,3;p0,4;m2,0;m0,2;m1,2;s2,1;s0,2;s2,0;d62;", 3);
        int[][] want = {{9, 1, 4, 3, 2, 1}, {60, 3, 4, 2, 0, 1}, {0, 4, 3, 5, 5, 1}};
        for (int i = 0; i < 3; i++) {
            for (int what = 0; what < 6; what++) {
                Check.due("person " + i + " " + what, x.person(i, what), want[i][what]);
            }
        }
        int[] bad = {-1, 3, 6, Integer.MIN_VALUE, Integer.MAX_VALUE};
        for (int i : bad) {
            Check.due("person " + i, x.person(i, 0), BAD);
        }
        int[] badWhat = {-1, 6, Integer.MIN_VALUE, Integer.MAX_VALUE};
        for (int what : badWhat) {
            Check.due("person what " + what, x.person(0, what), BAD);
        }
        // the dead meet nobody, nobody meets them, they know what they know
        OlderByABlush y = Check.laid("p5,1;p1,0;p1,0;m0,1;m1,2;m0,2;s0,0;d7;", 3);
        y.tell(0, 0, 6);
        Check.due("age of the dead", y.person(0, 0), 7);
        Check.due("the dead is dead", y.person(0, 5), 0);
        Check.due("the dead meets nobody", y.person(0, 2), 0);
        Check.due("nobody meets the dead", y.person(1, 2), 4);
        Check.due("the dead knows", y.person(0, 3), 1);
        Check.due("the dead's secrets", y.person(0, 4), 1);
    }

    private static void secrets() {
        // who is told behind the secret is there, who is not told at all is not
        OlderByABlush x = Check.laid("p1,0;s0,62;p1,0;s1,0;p1,0;s1,1;", 3);
        Check.due("whose 0", x.secret(0, 0), 0);
        Check.due("knowers of 0", x.secret(0, 1), 7);
        Check.due("whose 1", x.secret(1, 0), 1);
        Check.due("knowers of 1", x.secret(1, 1), 2);
        Check.due("knowers of 2", x.secret(2, 1), 3);
        int[] bad = {-1, 3, 8, Integer.MIN_VALUE, Integer.MAX_VALUE};
        for (int s : bad) {
            Check.due("secret " + s, x.secret(s, 0), BAD);
        }
        Check.due("secret what 2", x.secret(0, 2), BAD);
        Check.due("secret what -1", x.secret(0, -1), BAD);
        OlderByABlush y = Check.laid("p1,3;s0,62;p1,0;p1,0;m0,1;m0,2;", 3);
        Check.due("who is not there does not count for a masked one", y.secret(0, 1), 7);
        OlderByABlush z = Check.laid("p1,3;s0,48;p1,0;p1,0;p1,0;p1,0;m0,1;m4,1;m4,2;m4,3;", 5);
        z.tell(4, 0, 14);
        // only 4 of the two named is there: 1 learns for nothing, 2 and 3 cost a shade each
        Check.due("masked by those who are there", z.person(0, 0), 3);
    }
}
