/** People who age by being found out: a village told in a text, its gossip, and what is asked of it. */
public final class OlderByABlush {
    public static final int BAD = -1, NO = -2, FULL = -3, NONE = -4;

    private static final int PEOPLE = 6, SECRETS = 8, LETTERS = 200;
    private static final int OLDEST_TOLD = 60, LATEST_DEATH = 99, USUAL_DEATH = 80, KNOWERS_TOLD = 63;
    private static final int UNDOABLE = 8, KEEPABLE = 2, WITNESSES = 5, SIGHTS = 6;
    private static final int ORDERS = 120, MOST_DAYS = 60;
    private static final int KINDS = 5, PLAIN = 0, SHY = 1, ROGUE = 2, MASKED = 3, CONFESSOR = 4;
    /** More shades than any chain of tellings can cost. */
    private static final int FAR = 1000000;
    private static final String FIRST_VILLAGE =
            "p20,0;p5,1;p30,2;p8,4;p12,3;m0,1;m1,2;m2,3;m0,3;m3,4;s0,0;s1,1;s2,0;s4,8;s0,16;";

    private final Script script = new Script();
    private final Reader reader = new Reader();
    private final Village village = new Village();
    /** Read into where a text is only looked at, so that the laid village stays. */
    private final Village draft = new Village();
    private final Standing now = new Standing(village);
    private final Standing trial = new Standing(village);
    private final Shelf undoable = new Shelf(UNDOABLE);
    private final Shelf kept = new Shelf(KEEPABLE);
    private final Chain chain = new Chain();
    private final Court court = new Court();
    private final Sights sights = new Sights();

    public OlderByABlush() {
        for (int k = 0; k < FIRST_VILLAGE.length(); k++) {
            script.add(FIRST_VILLAGE.charAt(k));
        }
        reader.readAll(script, village);
        now.begin();
        script.clear();
    }

    // ---- villages

    public int write(int letter) {
        if (letter < 32 || letter > 126) {
            return BAD;
        }
        return script.add((char) letter) ? script.size() : FULL;
    }

    public int wipe() {
        int were = script.size();
        script.clear();
        return were;
    }

    public int fault() {
        return reader.readAll(script, draft);
    }

    public int lay() {
        if (reader.readAll(script, draft) != NONE || !draft.canLive()) {
            return NO;
        }
        reader.readAll(script, village);
        now.begin();
        undoable.clear();
        kept.clear();
        court.clear();
        sights.clear();
        return village.people();
    }

    public int person(int i, int what) {
        if (!village.hasPerson(i)) {
            return BAD;
        }
        switch (what) {
            case 0: return now.ageOf(i);
            case 1: return village.kindOf(i);
            case 2: return now.meetsOf(i);
            case 3: return now.knownTo(i);
            case 4: return village.secretsOf(i);
            case 5: return now.isAlive(i) ? 1 : 0;
            default: return BAD;
        }
    }

    public int secret(int s, int what) {
        if (!village.hasSecret(s)) {
            return BAD;
        }
        switch (what) {
            case 0: return village.ownerOf(s);
            case 1: return now.knowersOf(s);
            default: return BAD;
        }
    }

    // ---- days

    public int tell(int i, int s, int set) {
        if (!village.hasPerson(i) || !village.hasSecret(s)) {
            return BAD;
        }
        if (set == 0 || (set & ~now.meetsOf(i)) != 0) {
            return BAD;
        }
        if (!now.knows(i, s)) {
            return NO;
        }
        undoable.pushDroppingOldest(now);
        return now.speak(i, s, set);
    }

    public int day() {
        undoable.pushDroppingOldest(now);
        return now.passDay();
    }

    public int undo() {
        return undoable.pop(now) ? undoable.size() : NO;
    }

    public int gossip(int n, int i, int what) {
        if (n < 0 || n > MOST_DAYS || !village.hasPerson(i) || what < 0 || what > 1) {
            return BAD;
        }
        trial.copy(now);
        for (int d = 0; d < n; d++) {
            trial.passDay();
        }
        return what == 0 ? trial.ageOf(i) : trial.knownTo(i);
    }

    public int first(int what) {
        if (what < 0 || what > 1) {
            return BAD;
        }
        trial.copy(now);
        int alive = trial.living();
        for (int d = 1; d <= MOST_DAYS; d++) {
            trial.passDay();
            int died = alive & ~trial.living();
            if (died != 0) {
                return what == 0 ? lowestOf(died) : d;
            }
        }
        return NONE;
    }

    // ---- what should be

    public int reach(int s, int i) {
        if (!village.hasSecret(s) || !village.hasPerson(i)) {
            return BAD;
        }
        if (!now.isAlive(i)) {
            return NO;
        }
        return chain.fewestShades(now, s, i);
    }

    public int all(int set, int i) {
        if (set < 0 || set >= 1 << village.secrets() || !village.hasPerson(i)) {
            return BAD;
        }
        if (!now.isAlive(i)) {
            return NO;
        }
        int together = 0;
        for (int s = 0; s < SECRETS; s++) {
            if (has(set, s)) {
                int shades = chain.fewestShades(now, s, i);
                if (shades == NONE) {
                    return NONE;
                }
                together += shades;
            }
        }
        return together;
    }

    public int apart(int s, int i) {
        if (!village.hasSecret(s) || !village.hasPerson(i)) {
            return BAD;
        }
        if (!now.isAlive(i)) {
            return NO;
        }
        if (now.knows(i, s)) {
            return NONE;
        }
        return fewestCut(now.living(), now.knowersOf(s) & now.living(), 1 << i);
    }

    public int worth(int i, int s) {
        if (!village.hasPerson(i) || !village.hasSecret(s)) {
            return BAD;
        }
        if (!now.isAlive(i) || !now.knows(i, s)) {
            return NO;
        }
        int owner = village.ownerOf(s);
        trial.copy(now);
        trial.speak(i, s, trial.meetsOf(i));
        return trial.ageOf(owner) - now.ageOf(owner);
    }

    public int witness(int i, int s) {
        if (!village.hasPerson(i) || !village.hasSecret(s)) {
            return BAD;
        }
        return court.add(i, s) ? court.size() : FULL;
    }

    public int dismiss() {
        int were = court.size();
        court.clear();
        return were;
    }

    public int order(int k) {
        if (k < -1 || k >= court.size()) {
            return BAD;
        }
        int growth = court.findBest(now, trial);
        return k == -1 ? growth : court.bestAt(k);
    }

    public long confession(int u, int c, int x, int n, int what) {
        if (u < 0 || u > 9 || c < 0 || c > 2 || x < 0 || x > 10 || n < 0 || n > 12 || what < 0 || what > 2) {
            return BAD;
        }
        long found = u * c;
        long confessed = found / 2;
        long above = 0;
        long below = 1;
        long firstDay = NONE;
        // From the last day back, so that the earliest day that is as well is kept at the end.
        for (int d = n; d >= 1; d--) {
            long wait = x * found * below + (10 - x) * above;
            below *= 10;
            long own = confessed * below;
            if (own <= wait) {
                firstDay = d;
            }
            above = Math.min(own, wait);
        }
        if (what == 0) {
            return firstDay;
        }
        long common = commonDivisor(above, below);
        if (common == 0) {
            return BAD;
        }
        return what == 1 ? above / common : below / common;
    }

    // ---- what was

    public int seen(int i, int n, int h) {
        if (!village.hasPerson(i) || n < 0 || n > 9 || h < 0 || h > 20) {
            return BAD;
        }
        return sights.add(i, n, h) ? sights.size() : FULL;
    }

    public int forget() {
        int were = sights.size();
        sights.clear();
        return were;
    }

    public int kinds(int i) {
        return village.hasPerson(i) ? sights.possibleKinds(i) : BAD;
    }

    public int out(int i, int h, int what) {
        if (!village.hasPerson(i) || h < 0 || h > 99 || what < 0 || what > 1) {
            return BAD;
        }
        if (!now.isAlive(i)) {
            return NO;
        }
        int own = village.secretsOf(i);
        int many = 0;
        for (int set = 0; set < 1 << SECRETS; set++) {
            if ((set & ~own) == 0 && shadesOfAll(set) == h) {
                if (what == 1) {
                    return set;
                }
                many++;
            }
        }
        return what == 1 ? NONE : many;
    }

    public int year(int z, int n, int what) {
        if (z < 0 || z > 9999 || n < 1 || n > 60 || what < 0 || what > 1) {
            return BAD;
        }
        trial.copy(now);
        for (int k = 0; k < n; k++) {
            stepOfYear(z, k);
        }
        return what == 0 ? village.people() - Integer.bitCount(trial.living()) : trial.agesTogether();
    }

    public int keep() {
        return kept.push(now) ? kept.size() : FULL;
    }

    public int back() {
        if (!kept.pop(now)) {
            return NO;
        }
        undoable.clear();
        return kept.size();
    }

    public int count(int what) {
        switch (what) {
            case 0: return village.people();
            case 1: return Integer.bitCount(now.living());
            case 2: return village.secrets();
            case 3: return village.deathAge();
            case 4: return now.days();
            case 5: return court.size();
            case 6: return sights.size();
            case 7: return undoable.size();
            case 8: return kept.size();
            case 9: return script.size();
            default: return BAD;
        }
    }

    // ---- helpers

    private static boolean has(int set, int bit) {
        return (set >> bit & 1) != 0;
    }

    private static int lowestOf(int set) {
        for (int i = 0; i < PEOPLE; i++) {
            if (has(set, i)) {
                return i;
            }
        }
        return NONE;
    }

    /** What one of this kind ages for one more who learns a secret of his that so many others know. */
    private static int care(int kind, int others) {
        switch (kind) {
            case SHY: return 2;
            case ROGUE: return 0;
            case MASKED: return others >= 2 ? 1 : 0;
            default: return 1;
        }
    }

    /** The same for several who learn it one behind the other. */
    private static int careForMany(int kind, int others, int learners) {
        int shades = 0;
        for (int k = 0; k < learners; k++) {
            shades += care(kind, others + k);
        }
        return shades;
    }

    private static long commonDivisor(long a, long b) {
        for (int k = 0; k < 200 && b != 0; k++) {
            long rest = a % b;
            a = b;
            b = rest;
        }
        return a;
    }

    /** Each way to part the living into those by the knowers and those by the one is a way to forbid. */
    private int fewestCut(int living, int knowers, int one) {
        int fewest = FAR;
        for (int side = 0; side < 1 << PEOPLE; side++) {
            if ((side & ~living) == 0 && (side & one) == 0 && (knowers & ~side) == 0) {
                fewest = Math.min(fewest, meetingsAcross(side, living & ~side));
            }
        }
        return fewest;
    }

    private int meetingsAcross(int side, int otherSide) {
        int many = 0;
        for (int i = 0; i < PEOPLE; i++) {
            if (has(side, i)) {
                many += Integer.bitCount(now.meetsOf(i) & otherSide);
            }
        }
        return many;
    }

    private int shadesOfAll(int set) {
        int shades = 0;
        for (int s = 0; s < SECRETS; s++) {
            if (has(set, s)) {
                int kind = village.kindOf(village.ownerOf(s));
                int learners = Integer.bitCount(now.living() & ~now.knowersOf(s));
                shades += careForMany(kind, now.othersKnowing(s), learners);
            }
        }
        return shades;
    }

    private void stepOfYear(int z, int k) {
        int people = village.people();
        int secrets = village.secrets();
        if (people <= 0 || secrets <= 0) {
            return;
        }
        long x = 7919L * z + 6151L * k + 1;
        int draw = (int) (x * x % 65521 / 8);
        int i = draw % people;
        int s = draw / 6 % secrets;
        if (trial.isAlive(i) && trial.knows(i, s)) {
            trial.speak(i, s, trial.meetsOf(i));
        }
    }

    /** The letters of the text. */
    private static final class Script {
        private final char[] letters = new char[LETTERS];
        private int length = 0;

        int size() {
            return length;
        }

        void clear() {
            length = 0;
        }

        boolean add(char letter) {
            if (length < 0 || length >= letters.length) {
                return false;
            }
            letters[length] = letter;
            length++;
            return true;
        }

        /** Behind the end a sign that no item holds, so that a cut item is a fault like any other. */
        char at(int place) {
            return place >= 0 && place < length && place < letters.length ? letters[place] : (char) 0;
        }
    }

    /** Reads the items of a text into a village. */
    private static final class Reader {
        private int place = 0;
        private int number = 0;

        /** The place of the first item that is at fault, or NONE. */
        int readAll(Script script, Village into) {
            into.clear();
            place = 0;
            for (int k = 0; k < LETTERS && place < script.size(); k++) {
                int start = place;
                if (!readItem(script, into)) {
                    return start;
                }
            }
            return NONE;
        }

        private boolean readItem(Script script, Village into) {
            char letter = script.at(place);
            place++;
            if (letter == 'd') {
                return readNumber(script, ';') && into.addDeath(number);
            }
            if (letter != 'p' && letter != 'm' && letter != 's' || !readNumber(script, ',')) {
                return false;
            }
            int ahead = number;
            if (!readNumber(script, ';')) {
                return false;
            }
            switch (letter) {
                case 'p': return into.addPerson(ahead, number);
                case 'm': return into.addMeeting(ahead, number);
                default: return into.addSecret(ahead, number);
            }
        }

        /** A number of one or two figures and the sign behind it. */
        private boolean readNumber(Script script, char behind) {
            char figure = script.at(place);
            if (!isFigure(figure)) {
                return false;
            }
            number = figure - '0';
            place++;
            figure = script.at(place);
            if (isFigure(figure)) {
                number = number * 10 + (figure - '0');
                place++;
            }
            if (script.at(place) != behind) {
                return false;
            }
            place++;
            return true;
        }

        private static boolean isFigure(char sign) {
            return sign >= '0' && sign <= '9';
        }
    }

    /** A village as a text tells it: what no telling changes, and how things are at first. */
    private static final class Village {
        private final int[] firstAges = new int[PEOPLE];
        private final int[] kindRow = new int[PEOPLE];
        private final int[] meetings = new int[PEOPLE];
        private final int[] owners = new int[SECRETS];
        private final int[] firstKnowers = new int[SECRETS];
        private int people = 0;
        private int secrets = 0;
        private int deathAge = USUAL_DEATH;

        void clear() {
            people = 0;
            secrets = 0;
            deathAge = USUAL_DEATH;
        }

        boolean addPerson(int age, int kind) {
            if (people < 0 || people >= PEOPLE || age > OLDEST_TOLD || kind >= KINDS) {
                return false;
            }
            firstAges[people] = age;
            kindRow[people] = kind;
            meetings[people] = 0;
            people++;
            return true;
        }

        boolean addMeeting(int i, int j) {
            if (!hasPerson(i) || !hasPerson(j) || i == j) {
                return false;
            }
            meetings[i] |= 1 << j;
            meetings[j] |= 1 << i;
            return true;
        }

        boolean addSecret(int owner, int knowers) {
            if (secrets < 0 || secrets >= SECRETS || !hasPerson(owner) || knowers > KNOWERS_TOLD) {
                return false;
            }
            owners[secrets] = owner;
            firstKnowers[secrets] = knowers | 1 << owner;
            secrets++;
            return true;
        }

        boolean addDeath(int age) {
            if (age < 1 || age > LATEST_DEATH) {
                return false;
            }
            deathAge = age;
            return true;
        }

        boolean canLive() {
            for (int i = 0; i < PEOPLE; i++) {
                if (i < people && firstAges[i] >= deathAge) {
                    return false;
                }
            }
            return people > 0;
        }

        int people() {
            return people;
        }

        int secrets() {
            return secrets;
        }

        int deathAge() {
            return deathAge;
        }

        boolean hasPerson(int i) {
            return i >= 0 && i < people && i < PEOPLE;
        }

        boolean hasSecret(int s) {
            return s >= 0 && s < secrets && s < SECRETS;
        }

        int kindOf(int i) {
            return hasPerson(i) ? kindRow[i] : PLAIN;
        }

        int ownerOf(int s) {
            return hasSecret(s) ? owners[s] : 0;
        }

        int firstAgeOf(int i) {
            return hasPerson(i) ? firstAges[i] : 0;
        }

        int meetingsOf(int i) {
            return hasPerson(i) ? meetings[i] : 0;
        }

        /** Only now is it known who is there: a secret may name persons told behind it, or none. */
        int firstKnowersOf(int s) {
            return hasSecret(s) ? firstKnowers[s] & (1 << people) - 1 : 0;
        }

        int secretsOf(int i) {
            int set = 0;
            for (int s = 0; s < SECRETS; s++) {
                if (s < secrets && owners[s] == i) {
                    set |= 1 << s;
                }
            }
            return set;
        }
    }

    /** How things stand: ages, who knows what, days; in one row, so that it is put away and fetched whole. */
    private static final class Standing {
        private static final int KNOWERS_AT = PEOPLE, DAYS_AT = PEOPLE + SECRETS, CELLS = DAYS_AT + 1;

        private final Village village;
        private final int[] row = new int[CELLS];

        Standing(Village village) {
            this.village = village;
        }

        void begin() {
            for (int i = 0; i < PEOPLE; i++) {
                row[i] = village.firstAgeOf(i);
            }
            for (int s = 0; s < SECRETS; s++) {
                row[KNOWERS_AT + s] = village.firstKnowersOf(s);
            }
            row[DAYS_AT] = 0;
        }

        void copy(Standing other) {
            other.copyInto(row);
        }

        void copyInto(int[] cells) {
            for (int k = 0; k < CELLS && k < cells.length; k++) {
                cells[k] = row[k];
            }
        }

        void copyFrom(int[] cells) {
            for (int k = 0; k < CELLS && k < cells.length; k++) {
                row[k] = cells[k];
            }
        }

        Village home() {
            return village;
        }

        int days() {
            return row[DAYS_AT];
        }

        int ageOf(int i) {
            return village.hasPerson(i) ? row[i] : 0;
        }

        int knowersOf(int s) {
            return village.hasSecret(s) ? row[KNOWERS_AT + s] : 0;
        }

        boolean isAlive(int i) {
            return village.hasPerson(i) && row[i] < village.deathAge();
        }

        boolean knows(int i, int s) {
            return village.hasPerson(i) && has(knowersOf(s), i);
        }

        int living() {
            int set = 0;
            for (int i = 0; i < PEOPLE; i++) {
                if (isAlive(i)) {
                    set |= 1 << i;
                }
            }
            return set;
        }

        int meetsOf(int i) {
            return isAlive(i) ? village.meetingsOf(i) & living() : 0;
        }

        int knownTo(int i) {
            int set = 0;
            for (int s = 0; s < SECRETS; s++) {
                if (knows(i, s)) {
                    set |= 1 << s;
                }
            }
            return set;
        }

        /** How many know it beside the one whose it is; the dead, too. */
        int othersKnowing(int s) {
            return Integer.bitCount(knowersOf(s) & ~(1 << village.ownerOf(s)));
        }

        int agesTogether() {
            int sum = 0;
            for (int i = 0; i < PEOPLE; i++) {
                sum += ageOf(i);
            }
            return sum;
        }

        /** One tells a secret before a set, whether they meet or not: how many have learnt it. */
        int speak(int teller, int s, int set) {
            if (!village.hasSecret(s)) {
                return 0;
            }
            int owner = village.ownerOf(s);
            int learners = set & living() & ~knowersOf(s);
            int many = Integer.bitCount(learners);
            int shades = careForMany(village.kindOf(owner), othersKnowing(s), many);
            row[KNOWERS_AT + s] |= learners;
            growOlder(owner, teller == owner ? shades / 2 : shades);
            for (int i = 0; i < PEOPLE; i++) {
                if (has(learners, i) && village.kindOf(i) == CONFESSOR) {
                    growOlder(i, 1);
                }
            }
            return many;
        }

        private void growOlder(int i, int shades) {
            if (isAlive(i)) {
                row[i] += shades;
            }
        }

        int passDay() {
            int learnt = 0;
            for (int i = 0; i < PEOPLE; i++) {
                if (isAlive(i)) {
                    learnt += whisper(i);
                }
            }
            row[DAYS_AT]++;
            return learnt;
        }

        /** The lowest secret of another that he can bring to one who does not know it. */
        private int whisper(int i) {
            for (int s = 0; s < SECRETS; s++) {
                if (knows(i, s) && village.ownerOf(s) != i) {
                    int hearers = meetsOf(i) & ~knowersOf(s);
                    if (hearers != 0) {
                        return speak(i, s, 1 << lowestOf(hearers));
                    }
                }
            }
            return 0;
        }
    }

    /** A stack of standings. */
    private static final class Shelf {
        private final int[][] rows;
        private int height = 0;

        Shelf(int places) {
            rows = new int[places > 0 ? places : 1][Standing.CELLS];
        }

        int size() {
            return height;
        }

        void clear() {
            height = 0;
        }

        boolean push(Standing standing) {
            if (height < 0 || height >= rows.length) {
                return false;
            }
            standing.copyInto(rows[height]);
            height++;
            return true;
        }

        void pushDroppingOldest(Standing standing) {
            if (height >= rows.length) {
                for (int k = 1; k < rows.length; k++) {
                    System.arraycopy(rows[k], 0, rows[k - 1], 0, Standing.CELLS);
                }
                height = rows.length - 1;
            }
            push(standing);
        }

        boolean pop(Standing standing) {
            if (height <= 0 || height > rows.length) {
                return false;
            }
            height--;
            standing.copyFrom(rows[height]);
            return true;
        }
    }

    /** A secret passed on from one to the next. */
    private static final class Chain {
        private int[] costs = new int[PEOPLE];
        private int[] nextCosts = new int[PEOPLE];

        /**
         * Costs by the number of tellings so far, as the care of a masked one hangs on it. A chain that comes
         * to one twice is no cheaper than the one without the loop, so it need not be kept out.
         */
        int fewestShades(Standing standing, int s, int goal) {
            if (goal < 0 || goal >= PEOPLE) {
                return NONE;
            }
            for (int i = 0; i < PEOPLE; i++) {
                costs[i] = standing.knows(i, s) && standing.isAlive(i) ? 0 : FAR;
            }
            int fewest = costs[goal];
            for (int told = 0; told < PEOPLE; told++) {
                passOn(standing, s, ownersCare(standing, s, told));
                fewest = Math.min(fewest, costs[goal]);
            }
            return fewest >= FAR ? NONE : fewest;
        }

        /** Another is taken to tell it, so the care is never halved; a dead one ages no more. */
        private static int ownersCare(Standing standing, int s, int told) {
            int owner = standing.home().ownerOf(s);
            if (!standing.isAlive(owner)) {
                return 0;
            }
            return care(standing.home().kindOf(owner), standing.othersKnowing(s) + told);
        }

        private void passOn(Standing standing, int s, int ownersCare) {
            for (int j = 0; j < PEOPLE; j++) {
                nextCosts[j] = FAR;
                if (standing.isAlive(j) && !standing.knows(j, s)) {
                    int own = standing.home().kindOf(j) == CONFESSOR ? 1 : 0;
                    nextCosts[j] = Math.min(FAR, cheapest(standing.meetsOf(j)) + ownersCare + own);
                }
            }
            int[] spare = costs;
            costs = nextCosts;
            nextCosts = spare;
        }

        private int cheapest(int set) {
            int least = FAR;
            for (int i = 0; i < PEOPLE; i++) {
                if (has(set, i)) {
                    least = Math.min(least, costs[i]);
                }
            }
            return least;
        }
    }

    /** Witnesses, and the order in which they should speak. */
    private static final class Court {
        private final int[] persons = new int[WITNESSES];
        private final int[] tales = new int[WITNESSES];
        private final int[] turn = new int[WITNESSES];
        private final int[] best = new int[WITNESSES];
        private int size = 0;

        int size() {
            return size;
        }

        void clear() {
            size = 0;
        }

        boolean add(int i, int s) {
            if (size < 0 || size >= WITNESSES) {
                return false;
            }
            persons[size] = i;
            tales[size] = s;
            size++;
            return true;
        }

        int bestAt(int k) {
            return k >= 0 && k < size && k < WITNESSES ? best[k] : BAD;
        }

        /** By how much all ages grow at least; the orders come by numbers, so the first of several stays. */
        int findBest(Standing now, Standing trial) {
            for (int k = 0; k < WITNESSES; k++) {
                turn[k] = k;
            }
            int least = FAR;
            boolean more = true;
            for (int k = 0; k < ORDERS && more; k++) {
                trial.copy(now);
                hear(trial);
                int growth = trial.agesTogether() - now.agesTogether();
                if (growth < least) {
                    least = growth;
                    System.arraycopy(turn, 0, best, 0, WITNESSES);
                }
                more = nextTurn();
            }
            return least;
        }

        private void hear(Standing trial) {
            for (int k = 0; k < WITNESSES; k++) {
                if (k < size) {
                    int i = personAt(k);
                    int s = taleAt(k);
                    if (trial.isAlive(i) && trial.knows(i, s)) {
                        trial.speak(i, s, personsBehind(k) & ~(1 << i));
                    }
                }
            }
        }

        private int personsBehind(int k) {
            int set = 0;
            for (int j = 0; j < WITNESSES; j++) {
                if (j > k && j < size) {
                    set |= 1 << personAt(j);
                }
            }
            return set;
        }

        private int personAt(int k) {
            int w = k >= 0 && k < WITNESSES ? turn[k] : 0;
            return w >= 0 && w < WITNESSES ? persons[w] : 0;
        }

        private int taleAt(int k) {
            int w = k >= 0 && k < WITNESSES ? turn[k] : 0;
            return w >= 0 && w < WITNESSES ? tales[w] : 0;
        }

        /** The next order by numbers of those that are there; false behind the last. */
        private boolean nextTurn() {
            int low = -1;
            for (int k = 0; k + 1 < WITNESSES; k++) {
                if (k + 1 < size && turn[k] < turn[k + 1]) {
                    low = k;
                }
            }
            if (low < 0) {
                return false;
            }
            int high = low;
            for (int k = 0; k < WITNESSES; k++) {
                if (k > low && k < size && turn[k] > turn[low]) {
                    high = k;
                }
            }
            swap(low, high);
            for (int a = low + 1, b = size - 1; a < b; a++, b--) {
                swap(a, b);
            }
            return true;
        }

        private void swap(int a, int b) {
            if (a >= 0 && a < WITNESSES && b >= 0 && b < WITNESSES) {
                int spare = turn[a];
                turn[a] = turn[b];
                turn[b] = spare;
            }
        }
    }

    /** What was seen of how people aged. */
    private static final class Sights {
        private final int[] persons = new int[SIGHTS];
        private final int[] learners = new int[SIGHTS];
        private final int[] shades = new int[SIGHTS];
        private int size = 0;

        int size() {
            return size;
        }

        void clear() {
            size = 0;
        }

        boolean add(int i, int n, int h) {
            if (size < 0 || size >= SIGHTS) {
                return false;
            }
            persons[size] = i;
            learners[size] = n;
            shades[size] = h;
            size++;
            return true;
        }

        int possibleKinds(int i) {
            int set = 0;
            for (int kind = 0; kind < KINDS; kind++) {
                if (fits(i, kind)) {
                    set |= 1 << kind;
                }
            }
            return set;
        }

        private boolean fits(int i, int kind) {
            for (int k = 0; k < SIGHTS; k++) {
                if (k < size && persons[k] == i && careForMany(kind, 0, learners[k]) != shades[k]) {
                    return false;
                }
            }
            return true;
        }
    }
}
