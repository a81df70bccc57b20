/** The head of the document: the bounds of a TEXT and of its ITEMS, each on both sides, and the place of a FAULT. */
public final class TextBoundsTest {
    private static final int NO = OlderByABlush.NO, FULL = OlderByABlush.FULL, NONE = OlderByABlush.NONE;
    private static final String SIX = "p1,0;p1,0;p1,0;p1,0;p1,0;p1,0;";

    public static void main(String[] args) {
        letters();
        itemsOneBehindTheOther();
        figures();
        partedAndEnded();
        ages();
        kinds();
        persons();
        meetingsToldAhead();
        meetingsUnlike();
        meetingsAgain();
        ownersToldAhead();
        knowers();
        knowersToldBehind();
        knowersThereOrNot();
        ownersKnow();
        secrets();
        deaths();
        eightyWithout();
        lastDeathCounts();
        placeOfTheFault();
        Check.end();
    }

    private static OlderByABlush written(String text) {
        OlderByABlush x = new OlderByABlush();
        Check.write(x, text);
        Check.due("letters of " + text, x.count(9), text.length());
        return x;
    }

    /** The text has its first fault at that place, cannot be laid, and leaves the village as it is. */
    private static void fault(String text, int place) {
        OlderByABlush x = written(text);
        Check.due("fault of " + text, x.fault(), place);
        Check.due("lay of " + text, x.lay(), NO);
        OlderByABlush other = written(text);
        Check.same("nothing is laid by " + text, Check.state(x), Check.state(other));
    }

    private static void let(String text) {
        Check.due("fault of " + text, written(text).fault(), NONE);
    }

    private static void letters() {
        Check.sentence("A TEXT is letters (200 at most)");
        let("");
        OlderByABlush x = written("p1,0;" + "d99;".repeat(48) + "d9");
        Check.due("the 200th letter", x.write(';'), 200);
        Check.due("a text of 200", x.fault(), NONE);
        Check.due("is read to its last item", x.lay() * 100 + x.count(3), 109);
        Check.due("a 201st", x.write('d'), FULL);
        Check.due("and no more", x.count(9), 200);
        Check.due("nothing came behind it", x.fault(), NONE);
        Check.due("all are gone at once", x.wipe(), 200);
        Check.due("and there is room again", x.write('p'), 1);
        Check.sentence("A TEXT is letters (200 at most): the last ITEM cut off by the bound");
        OlderByABlush y = written("p1,0;p1,0;" + "d99;".repeat(47));
        Check.due("198 letters", y.fault(), NONE);
        Check.write(y, "d9;");
        Check.due("cut", y.count(9), 200);
        Check.due("is a fault of the last item", y.fault(), 198);
    }

    private static void itemsOneBehindTheOther() {
        Check.sentence("ITEMS one behind the other, each a letter");
        let("p1,0;");
        let("p1,0;p2,1;m0,1;s0,0;d9;");
        fault("p1,0; p2,1;", 5);
        fault(" p1,0;", 0);
        fault("p1,0;;", 5);
        fault("p1,0;,", 5);
        fault("1,0;", 0);
        fault(";", 0);
        fault("p1,0;P1,0;", 5);
        fault("p1,0;D9;", 5);
        String near = "olnrtce~ {`@";
        for (int k = 0; k < near.length(); k++) {
            fault("p1,0;p1,0;" + near.charAt(k) + "0,1;", 10);
            fault("p1,0;p1,0;" + near.charAt(k) + "9;", 10);
        }
    }

    private static void figures() {
        Check.sentence("numbers (one or two figures)");
        let("p1,0;p01,00;m0,1;m00,01;s0,0;s00,00;d9;d09;");
        OlderByABlush x = Check.laid("p07,03;p7,3;m00,01;s01,02;d08;", 2);
        Check.due("two figures of an age", x.person(0, 0), 7);
        Check.due("one figure of an age", x.person(1, 0), 7);
        Check.due("two figures of a kind", x.person(0, 1), 3);
        Check.due("one figure of a kind", x.person(1, 1), 3);
        Check.due("two figures of m", x.person(0, 2), 2);
        Check.due("two figures of d", x.count(3), 8);
        Check.due("two figures of s", x.secret(0, 0), 1);
        String[] wrong = {"", "000", "001", "-1", "+1", " 1", "1 ", "1.", "x", "/", ":", "0x", "1_"};
        for (String number : wrong) {
            fault("p1,0;p" + number + ",0;", 5);
            fault("p1,0;p1," + number + ";", 5);
            fault("p1,0;p1,0;m" + number + ",0;", 10);
            fault("p1,0;p1,0;m0," + number + ";", 10);
            fault("p1,0;p1,0;s" + number + ",0;", 10);
            fault("p1,0;p1,0;s0," + number + ";", 10);
            fault("p1,0;d" + number + ";", 5);
        }
    }

    private static void partedAndEnded() {
        Check.sentence("numbers parted by , and a ; behind the last one");
        String[] wrong = {"p1;", "p1,0,0;", "p1;0;", "p1.0;", "p10;", "p1,0", "p1,0,", "p1,0:", "p1,", "p1", "p",
            "m0;", "m0,1,1;", "m0;1;", "m01;", "m0,1", "m0,1,", "m0,", "m0", "m",
            "s0;", "s0,1,1;", "s0;1;", "s01;", "s0,1", "s0,1,", "s0,", "s0", "s",
            "d9,", "d9,0;", "d9,;", "d9", "d,9;", "d"};
        for (String item : wrong) {
            fault("p1,0;p1,0;" + item, 10);
            // what comes behind does not mend it
            fault("p1,0;p1,0;" + item + "p1,0;", 10);
        }
    }

    private static void ages() {
        Check.sentence("a PERSON of AGE A (0 to 60 shades)");
        Check.due("0", Check.laid("p0,0;", 1).person(0, 0), 0);
        Check.due("1", Check.laid("p1,0;", 1).person(0, 0), 1);
        Check.due("59", Check.laid("p59,0;", 1).person(0, 0), 59);
        Check.due("60", Check.laid("p60,0;", 1).person(0, 0), 60);
        fault("p61,0;", 0);
        fault("p62,0;", 0);
        fault("p99,0;", 0);
        fault("p60,0;p61,0;", 6);
    }

    private static void kinds() {
        Check.sentence("of KIND K (0 PLAIN, 1 SHY, 2 ROGUE, 3 MASKED, 4 CONFESSOR)");
        for (int kind = 0; kind <= 4; kind++) {
            Check.due("kind " + kind, Check.laid("p1," + kind + ";", 1).person(0, 1), kind);
        }
        fault("p1,5;", 0);
        fault("p1,6;", 0);
        fault("p1,10;", 0);
        fault("p1,99;", 0);
        fault("p1,4;p1,5;", 5);
    }

    private static void persons() {
        Check.sentence("a PERSON: 6 at most, 0, 1, ..");
        String text = "";
        for (int many = 1; many <= 6; many++) {
            text += "p" + many + "," + many % 5 + ";";
            OlderByABlush x = Check.laid(text, many);
            Check.due("as many as told", x.count(0), many);
            for (int i = 0; i < many; i++) {
                Check.due("told as " + i, x.person(i, 0), i + 1);
            }
            Check.due("none behind the last", x.person(many, 0), OlderByABlush.BAD);
        }
        fault(SIX + "p1,0;", 30);
        fault(SIX + "d9;m0,5;p1,0;p1,0;", 38);
        let(SIX + "m0,5;s5,0;d9;");
    }

    private static void meetingsToldAhead() {
        Check.sentence("I and J (both told ahead");
        let("p1,0;p1,0;m0,1;");
        let("p1,0;p1,0;m1,0;");
        let(SIX + "m4,5;m5,4;");
        fault("p1,0;m0,1;p1,0;", 5);
        fault("p1,0;m1,0;p1,0;", 5);
        fault("m0,1;p1,0;p1,0;", 0);
        fault("p1,0;p1,0;m0,2;p1,0;", 10);
        fault("p1,0;p1,0;m2,0;p1,0;", 10);
        fault(SIX + "m5,6;", 30);
        fault(SIX + "m6,5;", 30);
        fault(SIX + "m0,99;", 30);
    }

    private static void meetingsUnlike() {
        Check.sentence("I and J (unlike)");
        fault("p1,0;m0,0;", 5);
        for (int i = 0; i < 6; i++) {
            fault(SIX + "m" + i + "," + i + ";", 30);
            fault(SIX + "m" + i + ",0" + i + ";", 30);
        }
    }

    private static void meetingsAgain() {
        Check.sentence("may MEET (the same again as well)");
        OlderByABlush x = Check.laid("p1,0;p1,0;p1,0;m0,1;m0,1;m1,0;m0,1;s0,0;", 3);
        Check.due("0 meets 1", x.person(0, 2), 2);
        Check.due("1 meets 0", x.person(1, 2), 1);
        Check.due("2 meets nobody", x.person(2, 2), 0);
        Check.due("one meeting to be forbidden", x.apart(0, 1), 1);
        OlderByABlush all = Check.laid(SIX + "m0,1;m0,2;m0,3;m0,4;m0,5;m1,2;m1,3;m1,4;m1,5;m2,3;m2,4;m2,5;m3,4;m3,5;m4,5;", 6);
        for (int i = 0; i < 6; i++) {
            Check.due("all but himself", all.person(i, 2), 63 - (1 << i));
        }
    }

    private static void ownersToldAhead() {
        Check.sentence("a SECRET of PERSON I (told ahead)");
        let("p1,0;s0,0;");
        fault("p1,0;s1,0;p1,0;", 5);
        fault("s0,0;p1,0;", 0);
        fault("p1,0;s1,0;", 5);
        fault(SIX + "s6,0;", 30);
        fault(SIX + "s99,0;", 30);
        Check.due("of the last", Check.laid(SIX + "s5,0;", 6).secret(0, 0), 5);
    }

    private static void knowers() {
        Check.sentence("which those of K (0 to 63, as bits) know");
        Check.due("0", Check.laid(SIX + "s2,0;", 6).secret(0, 1), 4);
        Check.due("1", Check.laid(SIX + "s2,1;", 6).secret(0, 1), 5);
        Check.due("62", Check.laid(SIX + "s2,62;", 6).secret(0, 1), 62);
        Check.due("63", Check.laid(SIX + "s2,63;", 6).secret(0, 1), 63);
        fault(SIX + "s2,64;", 30);
        fault(SIX + "s2,65;", 30);
        fault(SIX + "s2,99;", 30);
        for (int i = 0; i < 6; i++) {
            OlderByABlush x = Check.laid(SIX + "s2," + (1 << i) + ";", 6);
            Check.due("the bit of " + i, x.secret(0, 1), 4 | 1 << i);
            Check.due("he knows it", x.person(i, 3), 1);
        }
    }

    private static void knowersToldBehind() {
        Check.sentence("PERSONS told behind it, too");
        OlderByABlush x = Check.laid("p1,0;s0,2;p1,0;", 2);
        Check.due("told behind", x.secret(0, 1), 3);
        Check.due("and knows it", x.person(1, 3), 1);
        OlderByABlush y = Check.laid("p1,0;s0,63;p1,0;p1,0;p1,0;p1,0;p1,0;", 6);
        Check.due("five told behind", y.secret(0, 1), 63);
        OlderByABlush z = Check.laid("p1,0;s0,32;p1,0;p1,0;p1,0;p1,0;p1,0;m5,1;", 6);
        Check.due("the last of them tells it", z.tell(5, 0, 2), 1);
    }

    private static void knowersThereOrNot() {
        Check.sentence("there or not");
        OlderByABlush x = Check.laid("p1,0;s0,2;", 1);
        Check.due("one who is not there", x.secret(0, 1), 1);
        Check.due("is none", x.person(1, 3), OlderByABlush.BAD);
        Check.due("63 of one person", Check.laid("p1,0;s0,63;", 1).secret(0, 1), 1);
        Check.due("63 of five", Check.laid("p1,0;p1,0;p1,0;p1,0;p1,0;s0,63;", 5).secret(0, 1), 31);
        // a masked one whose secret two know who are not there: nobody knows it
        OlderByABlush y = Check.laid("p1,3;p1,0;p1,0;p1,0;m1,2;m1,3;s0,50;", 4);
        Check.due("1 knows it", y.secret(0, 1), 3);
        Check.due("told", y.tell(1, 0, 4), 1);
        Check.due("by one of whom nobody minds", y.person(0, 0), 1);
    }

    private static void ownersKnow() {
        Check.sentence("know, and he");
        Check.due("he alone", Check.laid("p1,0;p1,0;s1,0;", 2).secret(0, 1), 2);
        Check.due("named or not", Check.laid("p1,0;p1,0;s1,2;", 2).secret(0, 1), 2);
        Check.due("beside others", Check.laid("p1,0;p1,0;s1,1;", 2).secret(0, 1), 3);
    }

    private static void secrets() {
        Check.sentence("a SECRET: 8 at most, 0, 1, ..");
        String text = "p1,0;p1,0;";
        Check.due("none", Check.laid(text, 2).count(2), 0);
        for (int many = 1; many <= 8; many++) {
            text += "s" + many % 2 + ",0;";
            OlderByABlush x = Check.laid(text, 2);
            Check.due("as many as told", x.count(2), many);
            for (int s = 0; s < many; s++) {
                Check.due("told as " + s, x.secret(s, 0), (s + 1) % 2);
            }
            Check.due("none behind the last", x.secret(many, 0), OlderByABlush.BAD);
        }
        fault(text + "s0,0;", 50);
        fault(text + "d9;s0,0;s0,0;", 53);
        let(text + "p1,0;m0,1;d9;");
    }

    private static void deaths() {
        Check.sentence("one dies at AGE D (1 to 99)");
        Check.due("1", Check.laid("p0,0;d1;", 1).count(3), 1);
        Check.due("2", Check.laid("p0,0;d2;", 1).count(3), 2);
        Check.due("98", Check.laid("p60,0;d98;", 1).count(3), 98);
        Check.due("99", Check.laid("p60,0;d99;", 1).count(3), 99);
        fault("p0,0;d0;", 5);
        fault("p0,0;d00;", 5);
        fault("p0,0;d100;", 5);
        fault("p0,0;d999;", 5);
        // at 1: the first shade is the last
        OlderByABlush young = Check.laid("p0,0;p0,0;p0,0;m1,2;s0,2;d1;", 3);
        Check.due("alive at 0", young.count(1), 3);
        young.tell(1, 0, 4);
        Check.due("dead at 1", young.count(1), 2);
        atNinetyNine();
    }

    private static void atNinetyNine() {
        // a shy one ages by 1 for each before whom alone he confesses, by 2 for each told by 1
        OlderByABlush old = Check.laid("p60,1;p0,0;p0,0;p0,0;p0,0;p0,0;m0,1;m1,2;m1,3;m1,4;m1,5;"
                + "s0,2;s0,2;s0,2;s0,2;s0,2;s0,0;s0,0;s0,0;d99;", 6);
        old.tell(0, 5, 2);
        old.tell(0, 6, 2);
        for (int s = 0; s < 4; s++) {
            old.tell(1, s, 60);
        }
        old.tell(1, 4, 4);
        old.tell(1, 4, 8);
        Check.due("at 98", old.person(0, 0), 98);
        Check.due("he is alive", old.person(0, 5), 1);
        old.tell(0, 7, 2);
        Check.due("at 99", old.person(0, 0), 99);
        Check.due("he is dead", old.person(0, 5), 0);
    }

    private static void eightyWithout() {
        Check.sentence("80 without");
        OlderByABlush x = Check.laid("p60,0;p0,0;p0,0;p0,0;p0,0;p0,0;m1,2;m1,3;m1,4;m1,5;s0,2;s0,2;s0,2;s0,2;s0,2;", 6);
        Check.due("D", x.count(3), 80);
        for (int s = 0; s < 4; s++) {
            x.tell(1, s, 60);
        }
        x.tell(1, 4, 4 + 8 + 16);
        Check.due("at 79", x.person(0, 0), 79);
        Check.due("he is alive", x.person(0, 5), 1);
        x.tell(1, 4, 32);
        Check.due("at 80", x.person(0, 0), 80);
        Check.due("he is dead", x.person(0, 5), 0);
        // a village without d behind one with it
        OlderByABlush y = Check.laid("p1,0;d9;", 1);
        y.wipe();
        Check.write(y, "p1,0;");
        y.lay();
        Check.due("80 again", y.count(3), 80);
    }

    private static void lastDeathCounts() {
        Check.sentence("of several such the last one counts");
        Check.due("the lower behind", Check.laid("p0,0;d9;d5;", 1).count(3), 5);
        Check.due("the higher behind", Check.laid("p0,0;d5;d9;", 1).count(3), 9);
        Check.due("ahead of the persons", Check.laid("d5;p0,0;d9;p0,0;d7;", 2).count(3), 7);
        Check.due("80 told", Check.laid("p0,0;d9;d80;", 1).count(3), 80);
        // only the last one is held against the ages
        Check.due("too low, then high", Check.laid("p9,0;d9;d10;", 1).count(3), 10);
        OlderByABlush x = written("p9,0;d10;d9;");
        Check.due("high, then too low: no fault", x.fault(), NONE);
        Check.due("but it cannot be laid", x.lay(), NO);
        fault("p0,0;d5;d0;d9;", 8);
    }

    private static void placeOfTheFault() {
        Check.sentence("FAULT: the place (from 0 on) of the first letter of the first ITEM that is not so");
        fault("x", 0);
        fault("p1,0;x", 5);
        fault("p01,00;x", 7);
        // the first of several
        fault("p1,0;p61,0;p99,9;x", 5);
        // the letter of the item, not the one that is wrong in it
        fault("p1,0;p1,0;m0,1;s0,0;d9;p1,9;", 23);
        fault("p1,0;p1,0;m0,1;s0,0;d9;p1,0", 23);
        // an item at fault tells nothing
        fault("p61,0;m0,1;", 0);
        // the last place that there is
        fault("p1,0;p1,0;p1,0;" + "d99;".repeat(46) + "p", 199);
        fault("~".repeat(200), 0);
        fault("d9;".repeat(66) + "dd", 198);
    }
}
