import java.math.BigInteger;
import java.util.ArrayList;
import java.util.HashSet;
import java.util.List;
import java.util.Set;
import java.util.TreeSet;
import java.util.regex.Matcher;
import java.util.regex.Pattern;

/**
 * The document once more, as slowly and as literally as can be: every telling is played, every way is tried.
 * It shares no code and no method of reckoning with the class, so that a slip in one shows against the other.
 */
final class Model {
    static final int BAD = -1, NO = -2, FULL = -3, NONE = -4;
    private static final Pattern ITEM = Pattern.compile("([pms])(\\d{1,2}),(\\d{1,2});|(d)(\\d{1,2});");

    /** What a text tells; a play changes ages and known alone. */
    static final class World {
        final List<Integer> ages = new ArrayList<>();
        final List<Integer> kinds = new ArrayList<>();
        final Set<Set<Integer>> meetings = new HashSet<>();
        final List<Integer> owners = new ArrayList<>();
        final List<Set<Integer>> known = new ArrayList<>();
        int death = 80;
        int days = 0;

        World twin() {
            World w = new World();
            w.ages.addAll(ages);
            w.kinds.addAll(kinds);
            w.meetings.addAll(meetings);
            w.owners.addAll(owners);
            for (Set<Integer> set : known) {
                w.known.add(new TreeSet<>(set));
            }
            w.death = death;
            w.days = days;
            return w;
        }

        boolean alive(int i) {
            return ages.get(i) < death;
        }

        boolean meets(int i, int j) {
            return i != j && alive(i) && alive(j) && meetings.contains(Set.of(i, j));
        }

        Set<Integer> met(int i) {
            Set<Integer> set = new TreeSet<>();
            for (int j = 0; j < ages.size(); j++) {
                if (meets(i, j)) {
                    set.add(j);
                }
            }
            return set;
        }

        int together() {
            int sum = 0;
            for (int age : ages) {
                sum += age;
            }
            return sum;
        }

        int carePerLearner(int s) {
            int owner = owners.get(s);
            switch (kinds.get(owner)) {
                case 1:
                    return 2;
                case 2:
                    return 0;
                case 3:
                    Set<Integer> others = new TreeSet<>(known.get(s));
                    others.remove(owner);
                    return others.size() > 1 ? 1 : 0;
                default:
                    return 1;
            }
        }

        int play(int teller, int s, Set<Integer> before) {
            int owner = owners.get(s);
            int shades = 0;
            List<Integer> learnt = new ArrayList<>();
            for (int j : new TreeSet<>(before)) {
                if (alive(j) && !known.get(s).contains(j)) {
                    shades += carePerLearner(s);
                    known.get(s).add(j);
                    learnt.add(j);
                }
            }
            if (teller == owner) {
                shades = shades / 2;
            }
            if (alive(owner)) {
                ages.set(owner, ages.get(owner) + shades);
            }
            for (int j : learnt) {
                if (kinds.get(j) == 4) {
                    ages.set(j, ages.get(j) + 1);
                }
            }
            return learnt.size();
        }

        int playDay() {
            int learnt = 0;
            days++;
            for (int i = 0; i < ages.size(); i++) {
                learnt += playTurn(i);
            }
            return learnt;
        }

        private int playTurn(int i) {
            for (int s = 0; s < owners.size(); s++) {
                for (int j = 0; j < ages.size(); j++) {
                    if (owners.get(s) != i && known.get(s).contains(i) && meets(i, j) && !known.get(s).contains(j)) {
                        return play(i, s, Set.of(j));
                    }
                }
            }
            return 0;
        }
    }

    private String text = "";
    private World now = read("p20,0;p5,1;p30,2;p8,4;p12,3;m0,1;m1,2;m2,3;m0,3;m3,4;s0,0;s1,1;s2,0;s4,8;s0,16;");
    private final List<World> undoable = new ArrayList<>();
    private final List<World> kept = new ArrayList<>();
    private final List<int[]> witnesses = new ArrayList<>();
    private final List<int[]> sights = new ArrayList<>();

    private static int faultOf(String text, World into) {
        int place = 0;
        List<Integer> masks = new ArrayList<>();
        while (place < text.length()) {
            Matcher m = ITEM.matcher(text).region(place, text.length());
            if (!m.lookingAt() || !take(m, into, masks)) {
                return place;
            }
            place = m.end();
        }
        for (int s = 0; s < masks.size(); s++) {
            Set<Integer> set = new TreeSet<>();
            for (int i = 0; i < into.ages.size(); i++) {
                if (into.owners.get(s) == i || BigInteger.valueOf(masks.get(s)).testBit(i)) {
                    set.add(i);
                }
            }
            into.known.add(set);
        }
        return NONE;
    }

    private static boolean take(Matcher m, World into, List<Integer> masks) {
        int people = into.ages.size();
        if (m.group(4) != null) {
            into.death = Integer.parseInt(m.group(5));
            return into.death >= 1;
        }
        int a = Integer.parseInt(m.group(2));
        int b = Integer.parseInt(m.group(3));
        if (m.group(1).equals("p")) {
            into.ages.add(a);
            into.kinds.add(b);
            return people < 6 && a <= 60 && b <= 4;
        }
        if (m.group(1).equals("m")) {
            if (a >= people || b >= people || a == b) {
                return false;
            }
            into.meetings.add(Set.of(a, b));
            return true;
        }
        into.owners.add(a);
        masks.add(b);
        return a < people && b < 64 && masks.size() <= 8;
    }

    private static World read(String text) {
        World w = new World();
        if (faultOf(text, w) != NONE || w.ages.isEmpty()) {
            return null;
        }
        for (int i = 0; i < w.ages.size(); i++) {
            if (!w.alive(i)) {
                return null;
            }
        }
        return w;
    }

    private static int bits(Set<Integer> set) {
        int sum = 0;
        for (int k : set) {
            sum += (int) Math.pow(2, k);
        }
        return sum;
    }

    private static Set<Integer> setOf(int bits) {
        Set<Integer> set = new TreeSet<>();
        for (int k = 0; k < 32; k++) {
            if (BigInteger.valueOf(bits & 0xffffffffL).testBit(k)) {
                set.add(k);
            }
        }
        return set;
    }

    private boolean badPerson(int i) {
        return i < 0 || i >= now.ages.size();
    }

    private boolean badSecret(int s) {
        return s < 0 || s >= now.owners.size();
    }

    private static boolean outside(int n, int low, int high) {
        return n < low || n > high;
    }

    int write(int letter) {
        if (outside(letter, 32, 126)) {
            return BAD;
        }
        if (text.length() == 200) {
            return FULL;
        }
        text += (char) letter;
        return text.length();
    }

    int wipe() {
        int were = text.length();
        text = "";
        return were;
    }

    int fault() {
        return faultOf(text, new World());
    }

    int lay() {
        World w = read(text);
        if (w == null) {
            return NO;
        }
        now = w;
        undoable.clear();
        kept.clear();
        witnesses.clear();
        sights.clear();
        return w.ages.size();
    }

    private static int knownBy(World w, int i) {
        Set<Integer> set = new TreeSet<>();
        for (int s = 0; s < w.owners.size(); s++) {
            if (w.known.get(s).contains(i)) {
                set.add(s);
            }
        }
        return bits(set);
    }

    int person(int i, int what) {
        if (badPerson(i) || outside(what, 0, 5)) {
            return BAD;
        }
        Set<Integer> own = new TreeSet<>();
        for (int s = 0; s < now.owners.size(); s++) {
            if (now.owners.get(s) == i) {
                own.add(s);
            }
        }
        int[] answers = {now.ages.get(i), now.kinds.get(i), bits(now.met(i)), knownBy(now, i), bits(own),
            now.alive(i) ? 1 : 0};
        return answers[what];
    }

    int secret(int s, int what) {
        if (badSecret(s) || outside(what, 0, 1)) {
            return BAD;
        }
        return what == 0 ? now.owners.get(s) : bits(now.known.get(s));
    }

    private void remember() {
        undoable.add(now.twin());
        if (undoable.size() > 8) {
            undoable.remove(0);
        }
    }

    int tell(int i, int s, int set) {
        if (badPerson(i) || badSecret(s) || set == 0 || !now.met(i).containsAll(setOf(set))) {
            return BAD;
        }
        if (!now.known.get(s).contains(i)) {
            return NO;
        }
        remember();
        return now.play(i, s, setOf(set));
    }

    int day() {
        remember();
        return now.playDay();
    }

    int undo() {
        if (undoable.isEmpty()) {
            return NO;
        }
        now = undoable.remove(undoable.size() - 1);
        return undoable.size();
    }

    int gossip(int n, int i, int what) {
        if (outside(n, 0, 60) || badPerson(i) || outside(what, 0, 1)) {
            return BAD;
        }
        World w = now.twin();
        for (int k = 0; k < n; k++) {
            w.playDay();
        }
        return what == 0 ? w.ages.get(i) : knownBy(w, i);
    }

    int first(int what) {
        if (outside(what, 0, 1)) {
            return BAD;
        }
        World w = now.twin();
        for (int d = 1; d <= 60; d++) {
            w.playDay();
            for (int i = 0; i < w.ages.size(); i++) {
                if (now.alive(i) && !w.alive(i)) {
                    return what == 0 ? i : d;
                }
            }
        }
        return NONE;
    }

    int reach(int s, int i) {
        if (badSecret(s) || badPerson(i)) {
            return BAD;
        }
        if (!now.alive(i)) {
            return NO;
        }
        // nobody dies of it: who is alive now is young enough, who is dead now stays so by never being met
        int best = Integer.MAX_VALUE;
        for (int k : now.known.get(s)) {
            if (now.alive(k)) {
                best = Math.min(best, cheapestChain(now.twin(), s, k, i, 0));
            }
        }
        return best == Integer.MAX_VALUE ? NONE : best;
    }

    private int cheapestChain(World w, int s, int at, int goal, int paid) {
        if (at == goal) {
            return paid;
        }
        int best = Integer.MAX_VALUE;
        for (int j = 0; j < w.ages.size(); j++) {
            if (now.meets(at, j) && !w.known.get(s).contains(j)) {
                World next = w.twin();
                int shades = now.alive(w.owners.get(s)) ? next.carePerLearner(s) : 0;
                shades += w.kinds.get(j) == 4 ? 1 : 0;
                next.known.get(s).add(j);
                best = Math.min(best, cheapestChain(next, s, j, goal, paid + shades));
            }
        }
        return best;
    }

    int all(int set, int i) {
        if (badPerson(i)) {
            return BAD;
        }
        for (int s : setOf(set)) {
            if (badSecret(s)) {
                return BAD;
            }
        }
        if (!now.alive(i)) {
            return NO;
        }
        int sum = 0;
        for (int s : setOf(set)) {
            int shades = reach(s, i);
            if (shades == NONE) {
                return NONE;
            }
            sum += shades;
        }
        return sum;
    }

    int apart(int s, int i) {
        if (badSecret(s) || badPerson(i)) {
            return BAD;
        }
        if (!now.alive(i)) {
            return NO;
        }
        if (now.known.get(s).contains(i)) {
            return NONE;
        }
        List<Set<Integer>> open = new ArrayList<>();
        for (Set<Integer> pair : now.meetings) {
            if (pair.stream().allMatch(now::alive)) {
                open.add(pair);
            }
        }
        int best = Integer.MAX_VALUE;
        for (int forbidden = 0; forbidden < 1 << open.size(); forbidden++) {
            if (Integer.bitCount(forbidden) < best && !comes(open, forbidden, s, i)) {
                best = Integer.bitCount(forbidden);
            }
        }
        return best;
    }

    private boolean comes(List<Set<Integer>> open, int forbidden, int s, int i) {
        Set<Integer> know = new TreeSet<>();
        for (int k : now.known.get(s)) {
            if (now.alive(k)) {
                know.add(k);
            }
        }
        for (int round = 0; round < 6; round++) {
            for (int e = 0; e < open.size(); e++) {
                if ((forbidden & 1 << e) == 0 && open.get(e).stream().anyMatch(know::contains)) {
                    know.addAll(open.get(e));
                }
            }
        }
        return know.contains(i);
    }

    int worth(int i, int s) {
        if (badPerson(i) || badSecret(s)) {
            return BAD;
        }
        if (!now.alive(i) || !now.known.get(s).contains(i)) {
            return NO;
        }
        World w = now.twin();
        w.play(i, s, w.met(i));
        return w.ages.get(now.owners.get(s)) - now.ages.get(now.owners.get(s));
    }

    int witness(int i, int s) {
        if (badPerson(i) || badSecret(s)) {
            return BAD;
        }
        if (witnesses.size() == 5) {
            return FULL;
        }
        witnesses.add(new int[] {i, s});
        return witnesses.size();
    }

    int dismiss() {
        int were = witnesses.size();
        witnesses.clear();
        return were;
    }

    private int bestGrowth;
    private List<Integer> bestTurns;

    int order(int k) {
        if (outside(k, -1, witnesses.size() - 1)) {
            return BAD;
        }
        bestGrowth = Integer.MAX_VALUE;
        tryTurns(new ArrayList<>());
        return k == -1 ? bestGrowth : bestTurns.get(k);
    }

    private void tryTurns(List<Integer> turns) {
        if (turns.size() == witnesses.size()) {
            int growth = growthBy(turns);
            if (growth < bestGrowth) {
                bestGrowth = growth;
                bestTurns = new ArrayList<>(turns);
            }
            return;
        }
        for (int w = 0; w < witnesses.size(); w++) {
            if (!turns.contains(w)) {
                turns.add(w);
                tryTurns(turns);
                turns.remove(turns.size() - 1);
            }
        }
    }

    private int growthBy(List<Integer> turns) {
        World w = now.twin();
        for (int k = 0; k < turns.size(); k++) {
            int[] speaker = witnesses.get(turns.get(k));
            Set<Integer> behind = new TreeSet<>();
            for (int later : turns.subList(k + 1, turns.size())) {
                behind.add(witnesses.get(later)[0]);
            }
            behind.remove(speaker[0]);
            if (w.alive(speaker[0]) && w.known.get(speaker[1]).contains(speaker[0])) {
                w.play(speaker[0], speaker[1], behind);
            }
        }
        return w.together() - now.together();
    }

    long confession(int u, int c, int x, int n, int what) {
        if (outside(u, 0, 9) || outside(c, 0, 2) || outside(x, 0, 10) || outside(n, 0, 12) || outside(what, 0, 2)) {
            return BAD;
        }
        if (what == 0) {
            for (int d = 1; d <= n; d++) {
                BigInteger[] wait = waiting(u, c, x, n, d);
                if (wait[0].compareTo(wait[1].multiply(BigInteger.valueOf(u * c / 2))) >= 0) {
                    return d;
                }
            }
            return NONE;
        }
        BigInteger[] mean = mean(u, c, x, n, 1);
        BigInteger common = mean[0].gcd(mean[1]);
        return mean[what - 1].divide(common).longValueExact();
    }

    /** The least mean from day d on, not being out. */
    private static BigInteger[] mean(int u, int c, int x, int n, int d) {
        if (d > n) {
            return new BigInteger[] {BigInteger.ZERO, BigInteger.ONE};
        }
        BigInteger[] wait = waiting(u, c, x, n, d);
        BigInteger half = BigInteger.valueOf(u * c / 2);
        return wait[0].compareTo(wait[1].multiply(half)) < 0 ? wait : new BigInteger[] {half, BigInteger.ONE};
    }

    private static BigInteger[] waiting(int u, int c, int x, int n, int d) {
        BigInteger[] rest = mean(u, c, x, n, d + 1);
        BigInteger found = rest[1].multiply(BigInteger.valueOf((long) x * u * c));
        return new BigInteger[] {found.add(rest[0].multiply(BigInteger.valueOf(10 - x))), rest[1].multiply(BigInteger.TEN)};
    }

    int seen(int i, int n, int h) {
        if (badPerson(i) || outside(n, 0, 9) || outside(h, 0, 20)) {
            return BAD;
        }
        if (sights.size() == 6) {
            return FULL;
        }
        sights.add(new int[] {i, n, h});
        return sights.size();
    }

    int forget() {
        int were = sights.size();
        sights.clear();
        return were;
    }

    int kinds(int i) {
        if (badPerson(i)) {
            return BAD;
        }
        Set<Integer> left = new TreeSet<>(Set.of(0, 1, 2, 3, 4));
        for (int[] sight : sights) {
            if (sight[0] == i) {
                int[] shades = {sight[1], 2 * sight[1], 0, Math.max(0, sight[1] - 2), sight[1]};
                left.removeIf(kind -> shades[kind] != sight[2]);
            }
        }
        return bits(left);
    }

    int out(int i, int h, int what) {
        if (badPerson(i) || outside(h, 0, 99) || outside(what, 0, 1)) {
            return BAD;
        }
        if (!now.alive(i)) {
            return NO;
        }
        TreeSet<Integer> found = new TreeSet<>();
        collect(i, h, 0, new TreeSet<>(), found);
        if (what == 0) {
            return found.size();
        }
        return found.isEmpty() ? NONE : found.first();
    }

    private void collect(int i, int left, int s, Set<Integer> taken, Set<Integer> found) {
        if (s == now.owners.size()) {
            if (left == 0) {
                found.add(bits(taken));
            }
            return;
        }
        collect(i, left, s + 1, taken, found);
        if (now.owners.get(s) == i) {
            World w = now.twin();
            int shades = 0;
            for (int j = 0; j < w.ages.size(); j++) {
                if (w.alive(j) && !w.known.get(s).contains(j)) {
                    shades += w.carePerLearner(s);
                    w.known.get(s).add(j);
                }
            }
            Set<Integer> more = new TreeSet<>(taken);
            more.add(s);
            collect(i, left - shades, s + 1, more, found);
        }
    }

    int year(int z, int n, int what) {
        if (outside(z, 0, 9999) || outside(n, 1, 60) || outside(what, 0, 1)) {
            return BAD;
        }
        World w = now.twin();
        for (int k = 0; k < n && !w.owners.isEmpty(); k++) {
            BigInteger x = BigInteger.valueOf(7919L * z + 6151L * k + 1);
            int draw = x.pow(2).mod(BigInteger.valueOf(65521)).intValue() / 8;
            int i = draw % w.ages.size();
            int s = (draw / 6) % w.owners.size();
            if (w.alive(i) && w.known.get(s).contains(i)) {
                w.play(i, s, w.met(i));
            }
        }
        int dead = 0;
        for (int i = 0; i < w.ages.size(); i++) {
            dead += w.alive(i) ? 0 : 1;
        }
        return what == 0 ? dead : w.together();
    }

    int keep() {
        if (kept.size() == 2) {
            return FULL;
        }
        kept.add(now.twin());
        return kept.size();
    }

    int back() {
        if (kept.isEmpty()) {
            return NO;
        }
        now = kept.remove(kept.size() - 1);
        undoable.clear();
        return kept.size();
    }

    int count(int what) {
        if (outside(what, 0, 9)) {
            return BAD;
        }
        int living = 0;
        for (int i = 0; i < now.ages.size(); i++) {
            living += now.alive(i) ? 1 : 0;
        }
        int[] answers = {now.ages.size(), living, now.owners.size(), now.death, now.days, witnesses.size(),
            sights.size(), undoable.size(), kept.size(), text.length()};
        return answers[what];
    }
}
