/**
 * Telephone boxes in which clouds ring up. The document numbers what each call promises; words in
 * capitals in the comments here are the document's terms.
 */
public final class CloudCalls {
    public static final int NONE = -1;

    private static final int BOXES = 6;
    private static final int ALL_BOXES = 63;
    private static final int LONGEST_ROAD = 9;
    private static final int MOST_CLOUDS = 6;
    private static final int KINDS = 5;
    private static final int MOST_RAGE = 9;
    private static final int MOST_FOLK = 5;
    private static final int ALL_EARS = 31;
    private static final int MOST_TOLD = 9;
    private static final int MOST_HELD = 999;
    private static final int MOST_HEARD = 6;
    private static final int MOST_LAWS = 6;
    private static final int IMAGES = 2;
    private static final int MOST_AHEAD = 60;
    private static final int MOST_SEED = 1000000;
    private static final int MOST_FEW = 20;
    private static final int MOST_RINGS = 99;
    private static final long WHOLE_CHANCE = 1000000000000L;

    private static final int NIGHT = 0;
    private static final int FADES = 1;
    private static final int MOOD = 2;
    private static final int[] TERM_TOPS = {999, 10, 9};

    private static final int BAD_NUMBER = -1;
    private static final int NO_SUCH = -2;
    private static final int CANNOT_BE = -3;
    private static final int NO_ROOM = -5;
    private static final int BAD_TEXT = -6;
    private static final int[] REFUSALS = {1, 2, 3, 5, 6};

    private static final int MOST_BYTES = 400;
    private static final int MOST_CLAUSES = 12;
    private static final int MOST_PARTS = 50;
    private static final int MOST_BRACKETS = 8;
    private static final int MOST_NUMBER = 1000;
    private static final int MOST_TIMES = 20;
    private static final int BLANK = 32;
    // Every token gives one sign at most, every clause three ends.
    private static final int MOST_CODE = MOST_BYTES + 3 * MOST_CLAUSES;
    // Two held back a bracket, one by a comparison, and the latest.
    private static final int STACK = 32;
    // Farther than any sum, so that it is none's value.
    private static final int BROKEN = -2000000000;
    private static final long FARTHEST = 1000000000L;

    // Both languages have four verbs, of which the last takes no SUM.
    private static final String LAW_VERBS = "tells soaks goes bars";
    private static final int TELLS = 0;
    private static final int SOAKS = 1;
    private static final int GOES = 2;
    private static final int BARS = 3;
    private static final String ORDER_VERBS = "ring engage smash pass";
    private static final int RINGS = 0;
    private static final int ENGAGES = 1;
    private static final int SMASHES = 2;
    private static final int PASSES = 3;
    private static final int WITHOUT_SUM = 3;

    private static final String LAW_WORDS = "cloud kind rage box folk knows wet night mood";
    private static final int LAW_WORD_COUNT = 9;
    private static final String ORDER_WORDS = "night done latest learnt soaked at busy";
    private static final int AT_WORD = 5;
    private static final int BUSY_WORD = 6;
    // "at 0" .. "at 5" and "busy 0" .. "busy 4" have a value each, behind those of the plain words.
    private static final int FIRST_AT = 5;
    private static final int FIRST_BUSY = 11;
    private static final int ORDER_WORD_COUNT = 16;

    private static final int END = 0;
    private static final int NUMBER = 1;
    private static final int WORD = 2;
    private static final int NOT = 3;
    private static final int AND = 4;
    private static final int OR = 5;
    private static final int PLUS = 6;
    private static final int MINUS = 7;
    private static final int TIMES = 8;
    private static final int DIVIDED = 9;
    private static final int REST = 10;
    private static final int LESS = 11;
    private static final int MORE = 12;
    private static final int SAME = 13;
    private static final int SIGN_BITS = 4;
    private static final int SIGN_MASK = 15;

    private final Circuit now = new Circuit();
    private final Circuit[] images = new Circuit[IMAGES];
    private final boolean[] imageKept = new boolean[IMAGES];
    private final Log log = new Log();
    private final Laws laws = new Laws();
    private final Deeds deeds = new Deeds(now, log, laws);
    private final Orders runner = new Orders(deeds);
    private final Answers answers = new Answers(laws);
    private final Paper paper = new Paper(laws);
    private final Reader reader = new Reader();
    private final byte[] tape = new byte[MOST_BYTES];
    private final long[] chances = new long[MOST_FEW];
    private final int[] refused = new int[7];
    private int tapeLength;
    private int faultPlace = NONE;
    private int wrongNumbers;
    private int refusal;

    public CloudCalls() {
        for (int k = 0; k < IMAGES; k++) {
            images[k] = new Circuit();
        }
    }

    // ---- clouds, folk, roads, terms

    public int cloud(int kind, int rage, int box) {
        if (!isWithin(kind, KINDS - 1) || !isWithin(rage, MOST_RAGE) || !isBox(box)) {
            return refuse(BAD_NUMBER);
        }
        if (now.clouds >= MOST_CLOUDS) {
            return refuse(NO_ROOM);
        }
        log.clear();
        return grant(now.addCloud(kind, rage, box));
    }

    public int of(int cloud, int what) {
        if (!now.hasCloud(cloud)) {
            return NONE;
        }
        switch (what) {
            case 0:
                return now.kind[cloud];
            case 1:
                return now.rage[cloud];
            case 2:
                return now.place[cloud];
            case 3:
                return laws.goal(now, cloud);
            default:
                return NONE;
        }
    }

    public int folk(int box, int ears) {
        if (!isBox(box) || !isWithin(ears, ALL_EARS)) {
            return refuse(BAD_NUMBER);
        }
        if (now.folks >= MOST_FOLK) {
            return refuse(NO_ROOM);
        }
        log.clear();
        return grant(now.addFolk(box, ears));
    }

    public int at(int folk, int what) {
        if (!now.hasFolk(folk)) {
            return NONE;
        }
        switch (what) {
            case 0:
                return now.home[folk];
            case 1:
                return now.ears[folk];
            case 2:
                return now.engaged[folk];
            case 3:
                return now.wet[folk];
            case 4:
                return now.knowing[folk];
            default:
                return NONE;
        }
    }

    public int asks(int cloud, int folk, int what) {
        if (!now.hasCloud(cloud) || !now.hasFolk(folk)) {
            return NONE;
        }
        switch (what) {
            case 0:
                return laws.told(now, cloud, folk);
            case 1:
                return laws.soaking(now, cloud, folk);
            case 2:
                return laws.canReach(now, cloud, folk) ? 1 : 0;
            default:
                return NONE;
        }
    }

    public int road(int one, int other, int length) {
        if (!isRoad(one, other, length)) {
            return refuse(BAD_NUMBER);
        }
        int was = now.roads.longFrom(one, other);
        now.roads.lay(one, other, length);
        return grant(was);
    }

    public int box(int box, int what) {
        if (!isBox(box)) {
            return NONE;
        }
        if (what == 0) {
            return (now.roads.smashed >> box) & 1;
        }
        if (what == 1) {
            return now.roads.reach(box, now.roads.standing()) & ~(1 << box);
        }
        return isWithin(what, BOXES + 1) ? now.roads.longFrom(box, what - 2) : NONE;
    }

    public int terms(int what, int value) {
        if (!isWithin(what, TERM_TOPS.length - 1) || !isWithin(value, TERM_TOPS[what])) {
            return refuse(BAD_NUMBER);
        }
        int was = now.term[what];
        now.term[what] = value;
        log.clear();
        return grant(was);
    }

    // ---- the tape

    public int feed(int a, int b, int c, int d, int e) {
        if (tapeLength + 20 > MOST_BYTES) {
            return NONE;
        }
        addBytes(a);
        addBytes(b);
        addBytes(c);
        addBytes(d);
        addBytes(e);
        return tapeLength;
    }

    public int end(int n) {
        if (!isWithin(n, tapeLength)) {
            return NONE;
        }
        tapeLength = n;
        return n;
    }

    public int row() {
        if (tapeLength == 0) {
            return refuse(BAD_TEXT);
        }
        int told = 0;
        wrongNumbers = 0;
        for (int i = 0; i < tapeLength; i += 3) {
            if (i + 2 < tapeLength && isRoad(tape[i], tape[i + 1], tape[i + 2])) {
                now.roads.lay(tape[i], tape[i + 1], tape[i + 2]);
                told++;
            } else {
                wrongNumbers++;
            }
        }
        tapeLength = 0;
        return grant(told);
    }

    public int wrong() {
        return wrongNumbers;
    }

    public int law() {
        if (now.lawCount >= MOST_LAWS) {
            tapeLength = 0;
            return refuse(NO_ROOM);
        }
        faultPlace = reader.faultOf(tape, tapeLength, false);
        tapeLength = 0;
        if (faultPlace != NONE) {
            return refuse(BAD_TEXT);
        }
        now.texts[now.lawCount] = reader.draft.copy();
        now.lawCount++;
        return grant(now.lawCount - 1);
    }

    public int orders() {
        runner.stopped = NONE;
        faultPlace = reader.faultOf(tape, tapeLength, true);
        tapeLength = 0;
        if (faultPlace != NONE) {
            return refuse(BAD_TEXT);
        }
        return runner.runWhole(reader.draft) ? grant(runner.done) : refuse(CANNOT_BE);
    }

    public int fault() {
        return faultPlace;
    }

    public int stopped() {
        return runner.stopped;
    }

    public int force(int law) {
        if (law != NONE && !now.hasLaw(law)) {
            return refuse(NO_SUCH);
        }
        int was = now.inForce;
        now.inForce = law;
        return grant(was);
    }

    // ---- what is done, and undone

    public int ring(int cloud, int folk) {
        return settle(deeds.ringUp(cloud, folk));
    }

    public int engage(int folk) {
        return settle(deeds.turnEngaged(folk));
    }

    public int smash(int box) {
        return settle(deeds.turnSmashed(box));
    }

    public int pass() {
        return settle(deeds.nextNight());
    }

    public int undo() {
        return settle(deeds.takeBack());
    }

    // ---- on paper

    public int where(int cloud, int n) {
        return now.hasCloud(cloud) && isWithin(n, MOST_AHEAD) ? paper.placeBehind(now, cloud, n) : NONE;
    }

    public int first(int box, int what) {
        return isBox(box) && isWithin(what, 1) ? paper.firstIn(now, box, what == 1) : NONE;
    }

    public int meeting(int one, int other) {
        return now.hasCloud(one) && now.hasCloud(other) && one != other ? paper.nightsToMeet(now, one, other) : NONE;
    }

    public int again() {
        return paper.nightsToReturn(now);
    }

    public int answered(int what) {
        if (what == 0) {
            return answers.most(now);
        }
        int cloud = what - 1;
        return what > 0 && now.hasCloud(cloud) ? answers.listenerOf(now, cloud) : NONE;
    }

    public int heard(int folk, int told) {
        if (!isWithin(told, MOST_TOLD)) {
            return refuse(BAD_NUMBER);
        }
        if (!now.hasFolk(folk)) {
            return refuse(NO_SUCH);
        }
        if (now.heardCount >= MOST_HEARD) {
            return refuse(NO_ROOM);
        }
        now.addHeard(folk, told);
        return grant(now.heardCount);
    }

    public int forget() {
        int was = now.heardCount;
        now.heardCount = 0;
        return was;
    }

    public int canBe() {
        return answers.candidates(now);
    }

    public int ask(int what) {
        return isWithin(what, 1) ? answers.toAsk(now, what == 1) : NONE;
    }

    public int way(int from, int to, int i) {
        if (!isBox(from) || !isBox(to) || i < NONE) {
            return NONE;
        }
        now.roads.measureTo(to);
        return i == NONE ? now.roads.far[from] : now.roads.stepOfWay(from, to, i);
    }

    public int part(int one, int other, int what) {
        if (!isBox(one) || !isBox(other) || one == other || !isWithin(what, 1)) {
            return NONE;
        }
        return countOrBits(now.roads.fewestToPart(one, other), what);
    }

    public int leave(int what) {
        return isWithin(what, 1) ? countOrBits(now.roads.fewestToLeave(now.homes()), what) : NONE;
    }

    public int needed() {
        return now.roads.neededBits();
    }

    public int fair(int folk) {
        return now.hasFolk(folk) ? answers.fairShare(now, folk) : NONE;
    }

    public long few(int k, int n) {
        if (k < 1 || k > MOST_FEW || !isWithin(n, MOST_RINGS)) {
            return NONE;
        }
        int fades = now.term[FADES];
        for (int j = 0; j < k; j++) {
            chances[j] = j == 0 ? WHOLE_CHANCE : 0L;
        }
        for (int i = 0; i < n; i++) {
            for (int j = k - 1; j >= 0; j--) {
                long more = j == 0 ? 0L : chances[j - 1] * fades / 10L;
                chances[j] = chances[j] * (10 - fades) / 10L + more;
            }
        }
        long together = 0L;
        for (int j = 0; j < k; j++) {
            together += chances[j];
        }
        return together;
    }

    public int compare(int law) {
        if (law != NONE && !now.hasLaw(law)) {
            return NONE;
        }
        return answers.most(paper.underLaw(now, law));
    }

    public int seasons(int seed, int n) {
        if (!isWithin(seed, MOST_SEED) || n < 1 || n > MOST_AHEAD) {
            return refuse(BAD_NUMBER);
        }
        if (now.clouds == 0 || now.folks == 0) {
            return refuse(CANNOT_BE);
        }
        return grant(paper.runSeasons(now, seed, n));
    }

    public int drawn(int k, int what) {
        Circuit season = paper.season;
        if (what == 0) {
            return season.hasCloud(k) ? season.place[k] : NONE;
        }
        if (!season.hasFolk(k)) {
            return NONE;
        }
        if (what == 1) {
            return season.wet[k];
        }
        return what == 2 ? season.knowing[k] : NONE;
    }

    // ---- images, counts

    public int image(int k) {
        if (!isWithin(k, IMAGES - 1)) {
            return refuse(BAD_NUMBER);
        }
        images[k].copyFrom(now);
        imageKept[k] = true;
        return grant(0);
    }

    public int back(int k) {
        if (!isWithin(k, IMAGES - 1)) {
            return refuse(BAD_NUMBER);
        }
        if (!imageKept[k]) {
            return refuse(NO_SUCH);
        }
        now.copyFrom(images[k]);
        log.clear();
        return grant(0);
    }

    public int count(int what) {
        switch (what) {
            case 0:
                return now.clouds;
            case 1:
                return now.folks;
            case 2:
                return now.roads.smashed;
            case 3:
                return now.sumOf(now.knowing);
            case 4:
                return now.sumOf(now.wet);
            case 5:
                return now.heardCount;
            case 6:
                return now.lawCount;
            case 7:
                return log.count;
            case 8:
                return tapeLength;
            case 14:
                return now.inForce;
            default:
                return countOfRow(what);
        }
    }

    public int status() {
        return refusal;
    }

    // ---- what the calls share

    private int countOfRow(int what) {
        if (what >= 9 && what <= 13) {
            return refused[REFUSALS[what - 9]];
        }
        return what >= 15 && what <= 17 ? now.term[what - 15] : NONE;
    }

    private int refuse(int why) {
        refused[-why]++;
        refusal = why;
        return why;
    }

    private int grant(int answer) {
        refusal = 0;
        return answer;
    }

    /** What is done answers 0 or more; what can't be, why. */
    private int settle(int answer) {
        return answer < 0 ? refuse(answer) : grant(answer);
    }

    private static int countOrBits(int bits, int what) {
        return bits == NONE || what == 1 ? bits : Integer.bitCount(bits);
    }

    private void addBytes(int four) {
        for (int shift = 24; shift >= 0; shift -= 8) {
            if (tapeLength < MOST_BYTES) {
                tape[tapeLength] = (byte) (four >> shift);
                tapeLength++;
            }
        }
    }

    private static boolean isWithin(int number, int most) {
        return number >= 0 && number <= most;
    }

    private static boolean isBox(int box) {
        return isWithin(box, BOXES - 1);
    }

    private static boolean isRoad(int one, int other, int length) {
        return isBox(one) && isBox(other) && one != other && isWithin(length, LONGEST_ROAD);
    }

    /** Boxes, smashed or not, and the roads between them; sets of boxes are bits. */
    private static final class Roads {
        private final int[] lengths = new int[BOXES * BOXES];
        private final int[] near = new int[BOXES];
        /** How far each box is from the one last measured to; NONE: no way. */
        final int[] far = new int[BOXES];
        int smashed;

        int longFrom(int one, int other) {
            return lengths[one * BOXES + other];
        }

        void lay(int one, int other, int length) {
            lengths[one * BOXES + other] = length;
            lengths[other * BOXES + one] = length;
            if (length == 0) {
                near[one] &= ~(1 << other);
                near[other] &= ~(1 << one);
            } else {
                near[one] |= 1 << other;
                near[other] |= 1 << one;
            }
        }

        void copyFrom(Roads other) {
            System.arraycopy(other.lengths, 0, lengths, 0, lengths.length);
            System.arraycopy(other.near, 0, near, 0, near.length);
            smashed = other.smashed;
        }

        int standing() {
            return ALL_BOXES & ~smashed;
        }

        /** The boxes that one comes to from a box over allowed ones alone, itself too if it is allowed. */
        int reach(int from, int allowed) {
            int seen = allowed & (1 << from);
            for (int round = 1; round < BOXES; round++) {
                for (int b = 0; b < BOXES; b++) {
                    if (((seen >> b) & 1) != 0) {
                        seen |= near[b] & allowed;
                    }
                }
            }
            return seen;
        }

        boolean areJoined(int one, int other, int allowed) {
            return ((reach(one, allowed) >> other) & 1) != 0;
        }

        int fewestToPart(int one, int other) {
            int others = standing() & ~(1 << one) & ~(1 << other);
            int best = NONE;
            // Rising, so that the lowest of as few stays; NONE has more bits than any set.
            for (int bits = 0; bits <= ALL_BOXES; bits++) {
                if ((bits & ~others) == 0 && Integer.bitCount(bits) < Integer.bitCount(best)
                        && !areJoined(one, other, standing() & ~bits)) {
                    best = bits;
                }
            }
            return best;
        }

        int fewestToLeave(int homes) {
            int best = NONE;
            for (int bits = 0; bits <= ALL_BOXES; bits++) {
                if ((bits & smashed) == 0 && (homes & ~bits) == 0
                        && Integer.bitCount(bits) < Integer.bitCount(best) && isWhole(bits)) {
                    best = bits;
                }
            }
            return best;
        }

        private boolean isWhole(int bits) {
            for (int b = 0; b < BOXES; b++) {
                if (((bits >> b) & 1) != 0) {
                    return reach(b, bits) == bits;
                }
            }
            return true;
        }

        int neededBits() {
            int needed = 0;
            for (int b = 0; b < BOXES; b++) {
                int without = standing() & ~(1 << b);
                for (int other = 0; other < BOXES; other++) {
                    boolean stands = ((without >> other) & 1) != 0;
                    if (stands && (reach(other, standing()) & ~(1 << b)) != reach(other, without)) {
                        needed |= 1 << b;
                    }
                }
            }
            return needed;
        }

        /** A way is asked of roads alone: no smashed box bars it. */
        void measureTo(int to) {
            for (int b = 0; b < BOXES; b++) {
                far[b] = b == to ? 0 : NONE;
            }
            for (int round = 1; round < BOXES; round++) {
                for (int road = 0; road < BOXES * BOXES; road++) {
                    shorten(road / BOXES, road % BOXES);
                }
            }
        }

        private void shorten(int from, int over) {
            int length = longFrom(from, over);
            if (length > 0 && far[over] != NONE && (far[from] == NONE || far[over] + length < far[from])) {
                far[from] = far[over] + length;
            }
        }

        /** The i-th box of the first of the shortest ways to the box that was measured to. */
        int stepOfWay(int from, int to, int i) {
            int here = from;
            for (int step = 0; step < BOXES; step++) {
                if (here == to || far[here] == NONE) {
                    return NONE;
                }
                here = nextOfWay(here);
                if (step == i) {
                    return here;
                }
            }
            return NONE;
        }

        private int nextOfWay(int here) {
            for (int b = 0; b < BOXES; b++) {
                int length = longFrom(here, b);
                if (length > 0 && far[b] != NONE && far[b] + length == far[here]) {
                    return b;
                }
            }
            return here;
        }
    }

    /** All that an image keeps. */
    private static final class Circuit {
        final Roads roads = new Roads();
        final int[] kind = new int[MOST_CLOUDS];
        final int[] rage = new int[MOST_CLOUDS];
        final int[] place = new int[MOST_CLOUDS];
        int clouds;
        final int[] home = new int[MOST_FOLK];
        final int[] ears = new int[MOST_FOLK];
        final int[] engaged = new int[MOST_FOLK];
        final int[] wet = new int[MOST_FOLK];
        final int[] knowing = new int[MOST_FOLK];
        int folks;
        final int[] heardBy = new int[MOST_HEARD];
        final int[] heardTold = new int[MOST_HEARD];
        int heardCount;
        final int[] term = {0, 1, 0};
        final Text[] texts = new Text[MOST_LAWS];
        int lawCount;
        int inForce = NONE;

        void copyFrom(Circuit other) {
            roads.copyFrom(other.roads);
            System.arraycopy(other.kind, 0, kind, 0, kind.length);
            System.arraycopy(other.rage, 0, rage, 0, rage.length);
            System.arraycopy(other.place, 0, place, 0, place.length);
            clouds = other.clouds;
            System.arraycopy(other.home, 0, home, 0, home.length);
            System.arraycopy(other.ears, 0, ears, 0, ears.length);
            System.arraycopy(other.engaged, 0, engaged, 0, engaged.length);
            System.arraycopy(other.wet, 0, wet, 0, wet.length);
            System.arraycopy(other.knowing, 0, knowing, 0, knowing.length);
            folks = other.folks;
            System.arraycopy(other.heardBy, 0, heardBy, 0, heardBy.length);
            System.arraycopy(other.heardTold, 0, heardTold, 0, heardTold.length);
            heardCount = other.heardCount;
            System.arraycopy(other.term, 0, term, 0, term.length);
            // A text is never changed once it is a law, so circuits may share it.
            for (int i = 0; i < MOST_LAWS; i++) {
                texts[i] = other.texts[i];
            }
            lawCount = other.lawCount;
            inForce = other.inForce;
        }

        int addCloud(int itsKind, int itsRage, int box) {
            kind[clouds] = itsKind;
            rage[clouds] = itsRage;
            place[clouds] = box;
            clouds++;
            return clouds - 1;
        }

        int addFolk(int box, int herEars) {
            home[folks] = box;
            ears[folks] = herEars;
            engaged[folks] = 0;
            wet[folks] = 0;
            knowing[folks] = 0;
            folks++;
            return folks - 1;
        }

        void addHeard(int folk, int told) {
            heardBy[heardCount] = folk;
            heardTold[heardCount] = told;
            heardCount++;
        }

        boolean hasCloud(int cloud) {
            return cloud >= 0 && cloud < clouds;
        }

        boolean hasFolk(int folk) {
            return folk >= 0 && folk < folks;
        }

        boolean hasLaw(int law) {
            return law >= 0 && law < lawCount;
        }

        boolean hears(int folk, int cloud) {
            return ((ears[folk] >> kind[cloud]) & 1) != 0;
        }

        int homes() {
            int bits = 0;
            for (int f = 0; f < folks; f++) {
                bits |= 1 << home[f];
            }
            return bits;
        }

        int sumOf(int[] ofFolk) {
            int sum = 0;
            for (int f = 0; f < folks; f++) {
                sum += ofFolk[f];
            }
            return sum;
        }
    }

    /** A text that was read: its clauses, and their sums and tests as signs in the order they are worked out. */
    private static final class Text {
        final int[] verb;
        final int[] first;
        final int[] second;
        final int[] times;
        final int[] test;
        int clauses;
        private final int[] code;
        private int size;

        Text(int mostClauses, int mostCode) {
            verb = new int[mostClauses];
            first = new int[mostClauses];
            second = new int[mostClauses];
            times = new int[mostClauses];
            test = new int[mostClauses];
            code = new int[mostCode];
        }

        Text copy() {
            Text other = new Text(clauses, size);
            System.arraycopy(verb, 0, other.verb, 0, clauses);
            System.arraycopy(first, 0, other.first, 0, clauses);
            System.arraycopy(second, 0, other.second, 0, clauses);
            System.arraycopy(times, 0, other.times, 0, clauses);
            System.arraycopy(test, 0, other.test, 0, clauses);
            System.arraycopy(code, 0, other.code, 0, size);
            other.clauses = clauses;
            other.size = size;
            return other;
        }

        void clear() {
            clauses = 0;
            size = 0;
        }

        void addClause(int itsVerb) {
            verb[clauses] = itsVerb;
            first[clauses] = NONE;
            second[clauses] = NONE;
            times[clauses] = 1;
            test[clauses] = NONE;
            clauses++;
        }

        int next() {
            return size;
        }

        void add(int sign, int told) {
            if (size < code.length) {
                code[size] = told << SIGN_BITS | sign;
                size++;
            }
        }

        /** The "and" or "or" at a place leads here, if what stands behind it can't matter. */
        void leadHere(int place) {
            if (place >= 0 && place < size) {
                code[place] = size << SIGN_BITS | (code[place] & SIGN_MASK);
            }
        }

        /** The sum, or the test (1: it is so, 0), whose signs begin at a place; BROKEN, if it is. */
        int value(int start, int[] words, int[] stack) {
            int top = 0;
            for (int i = start; i >= 0 && i < size && (code[i] & SIGN_MASK) != END; i++) {
                int sign = code[i] & SIGN_MASK;
                int told = code[i] >> SIGN_BITS;
                if (sign == NUMBER || sign == WORD) {
                    if (top >= stack.length || sign == WORD && told >= words.length) {
                        return BROKEN;
                    }
                    stack[top] = sign == NUMBER ? told : words[told];
                    top++;
                } else if (top < 1) {
                    return BROKEN;
                } else if (sign == NOT) {
                    stack[top - 1] = 1 - stack[top - 1];
                } else if (sign == AND || sign == OR) {
                    if ((stack[top - 1] == 0) == (sign == AND)) {
                        i = Math.max(i, told - 1);
                    } else {
                        top--;
                    }
                } else {
                    int result = top < 2 ? BROKEN : joined(sign, stack[top - 2], stack[top - 1]);
                    if (result == BROKEN) {
                        return BROKEN;
                    }
                    top--;
                    stack[top - 1] = result;
                }
            }
            return top == 1 ? stack[0] : BROKEN;
        }

        private static int joined(int sign, long one, long other) {
            long result;
            switch (sign) {
                case PLUS:
                    result = one + other;
                    break;
                case MINUS:
                    result = one - other;
                    break;
                case TIMES:
                    result = one * other;
                    break;
                case DIVIDED:
                    result = other == 0 ? BROKEN : one / other;
                    break;
                case REST:
                    result = other == 0 ? BROKEN : one % other;
                    break;
                case LESS:
                    result = one < other ? 1 : 0;
                    break;
                case MORE:
                    result = one > other ? 1 : 0;
                    break;
                default:
                    result = one == other ? 1 : 0;
                    break;
            }
            return result > FARTHEST || result < -FARTHEST ? BROKEN : (int) result;
        }
    }

    /** The tokens of a text, one at a time. */
    private static final class Tokens {
        private static final int OTHER = 0;
        private static final int LETTER = 1;
        private static final int DIGIT = 2;

        private byte[] bytes = new byte[0];
        private int length;
        /** Where the present token begins; behind the last one the text's length. */
        int start;
        private int stop;
        private int sort;

        void open(byte[] ofText, int itsLength) {
            bytes = ofText;
            length = Math.min(itsLength, ofText.length);
            stop = 0;
            step();
        }

        void step() {
            start = stop;
            for (int i = stop; i < length && bytes[i] == BLANK; i++) {
                start = i + 1;
            }
            stop = Math.min(start + 1, length);
            sort = start < length ? sortAt(start) : OTHER;
            for (int i = stop; i < length && sort != OTHER && sortAt(i) == sort; i++) {
                stop = i + 1;
            }
        }

        private int sortAt(int i) {
            int sign = bytes[i];
            if (sign >= 'a' && sign <= 'z') {
                return LETTER;
            }
            return sign >= '0' && sign <= '9' ? DIGIT : OTHER;
        }

        boolean isEnd() {
            return start >= length;
        }

        boolean is(String word) {
            return oneOf(word) == 0;
        }

        /** Which of words with a blank between the token is, from 0; NONE of them. */
        int oneOf(String words) {
            int word = 0;
            int place = start;
            boolean alike = true;
            for (int i = 0; i <= words.length(); i++) {
                if (i < words.length() && words.charAt(i) != BLANK) {
                    alike = alike && place < stop && bytes[place] == words.charAt(i);
                    place++;
                } else if (alike && place == stop) {
                    return word;
                } else {
                    word++;
                    place = start;
                    alike = true;
                }
            }
            return NONE;
        }

        /** The number that the token is, one above all that are allowed if it is larger; NONE, if it is none. */
        int number() {
            if (sort != DIGIT) {
                return NONE;
            }
            int number = 0;
            for (int i = start; i < stop; i++) {
                number = Math.min(number * 10 + bytes[i] - '0', MOST_NUMBER + 1);
            }
            return number;
        }
    }

    /** Reads a text of either language into a draft. */
    private static final class Reader {
        final Text draft = new Text(MOST_CLAUSES, MOST_CODE);
        private final Tokens tokens = new Tokens();
        private boolean ofOrders;
        private int parts;
        private int faultAt;

        /** Where the text has its FAULT; NONE, if the draft has it whole. */
        int faultOf(byte[] bytes, int length, boolean asOrders) {
            draft.clear();
            tokens.open(bytes, length);
            ofOrders = asOrders;
            parts = 0;
            faultAt = NONE;
            for (int i = 0; i < MOST_CLAUSES; i++) {
                if (!readClause(i)) {
                    return faultAt;
                }
                if (tokens.isEnd()) {
                    return NONE;
                }
                if (!expect(";")) {
                    return faultAt;
                }
            }
            return tokens.start;
        }

        private boolean fail() {
            faultAt = tokens.start;
            return false;
        }

        private boolean expect(String sign) {
            if (tokens.oneOf(sign) == NONE) {
                return fail();
            }
            tokens.step();
            return true;
        }

        private boolean readClause(int clause) {
            int verb = tokens.oneOf(ofOrders ? ORDER_VERBS : LAW_VERBS);
            if (verb == NONE) {
                return fail();
            }
            tokens.step();
            draft.addClause(verb);
            if (verb != WITHOUT_SUM) {
                draft.first[clause] = draft.next();
                if (!readSum(0)) {
                    return false;
                }
                draft.add(END, 0);
            }
            if (ofOrders && !readRestOfOrder(clause, verb)) {
                return false;
            }
            if (tokens.is("if")) {
                tokens.step();
                draft.test[clause] = draft.next();
                if (!readTest(0)) {
                    return false;
                }
                draft.add(END, 0);
            }
            return true;
        }

        private boolean readRestOfOrder(int clause, int verb) {
            if (verb == RINGS) {
                if (!expect("to")) {
                    return false;
                }
                draft.second[clause] = draft.next();
                if (!readSum(0)) {
                    return false;
                }
                draft.add(END, 0);
            }
            if (tokens.is("times")) {
                tokens.step();
                int times = tokens.number();
                if (times < 1 || times > MOST_TIMES) {
                    return fail();
                }
                tokens.step();
                draft.times[clause] = times;
            }
            return true;
        }

        private boolean readTest(int brackets) {
            if (!readBoth(brackets)) {
                return false;
            }
            for (int i = 0; i < MOST_BYTES && tokens.is("or"); i++) {
                tokens.step();
                int place = draft.next();
                draft.add(OR, 0);
                if (!readBoth(brackets)) {
                    return false;
                }
                draft.leadHere(place);
            }
            return true;
        }

        private boolean readBoth(int brackets) {
            if (!readPlain(brackets)) {
                return false;
            }
            for (int i = 0; i < MOST_BYTES && tokens.is("and"); i++) {
                tokens.step();
                int place = draft.next();
                draft.add(AND, 0);
                if (!readPlain(brackets)) {
                    return false;
                }
                draft.leadHere(place);
            }
            return true;
        }

        private boolean readPlain(int brackets) {
            boolean turned = false;
            // Counted, not one within another: a text has room for a hundred of them.
            for (int i = 0; i < MOST_BYTES && tokens.is("not"); i++) {
                tokens.step();
                turned = !turned;
            }
            if (tokens.is("(")) {
                if (brackets >= MOST_BRACKETS) {
                    return fail();
                }
                tokens.step();
                if (!readTest(brackets + 1) || !expect(")")) {
                    return false;
                }
            } else {
                if (!readSum(brackets)) {
                    return false;
                }
                int which = tokens.oneOf("< > =");
                if (which == NONE) {
                    return fail();
                }
                tokens.step();
                if (!readSum(brackets)) {
                    return false;
                }
                draft.add(LESS + which, 0);
            }
            if (turned) {
                draft.add(NOT, 0);
            }
            return true;
        }

        private boolean readSum(int brackets) {
            if (!readTerm(brackets)) {
                return false;
            }
            for (int i = 0; i < MOST_BYTES; i++) {
                int which = tokens.oneOf("+ -");
                if (which == NONE) {
                    return true;
                }
                tokens.step();
                if (!readTerm(brackets)) {
                    return false;
                }
                draft.add(PLUS + which, 0);
            }
            return true;
        }

        private boolean readTerm(int brackets) {
            if (!readPart(brackets)) {
                return false;
            }
            for (int i = 0; i < MOST_BYTES; i++) {
                int which = tokens.oneOf("* / %");
                if (which == NONE) {
                    return true;
                }
                tokens.step();
                if (!readPart(brackets)) {
                    return false;
                }
                draft.add(TIMES + which, 0);
            }
            return true;
        }

        private boolean readPart(int brackets) {
            if (tokens.is("[")) {
                if (brackets >= MOST_BRACKETS) {
                    return fail();
                }
                tokens.step();
                return readSum(brackets + 1) && expect("]");
            }
            int number = tokens.number();
            int word = tokens.oneOf(ofOrders ? ORDER_WORDS : LAW_WORDS);
            if (number == NONE && word == NONE || number > MOST_NUMBER || parts >= MOST_PARTS) {
                return fail();
            }
            parts++;
            tokens.step();
            if (number != NONE) {
                draft.add(NUMBER, number);
                return true;
            }
            if (ofOrders && word == AT_WORD) {
                return readWhich(FIRST_AT, MOST_CLOUDS);
            }
            if (ofOrders && word == BUSY_WORD) {
                return readWhich(FIRST_BUSY, MOST_FOLK);
            }
            draft.add(WORD, word);
            return true;
        }

        /** The number behind "at", "busy". */
        private boolean readWhich(int firstValue, int most) {
            int which = tokens.number();
            if (which < 0 || which >= most) {
                return fail();
            }
            tokens.step();
            draft.add(WORD, firstValue + which);
            return true;
        }
    }

    /** What the law in force says of clouds and folk. */
    private static final class Laws {
        private final int[] words = new int[LAW_WORD_COUNT];
        private final int[] stack = new int[STACK];

        int told(Circuit c, int cloud, int folk) {
            int said = lastSaid(c, TELLS, cloud, folk);
            if (said != BROKEN) {
                return nearestTold(said);
            }
            return c.hears(folk, cloud) ? c.rage[cloud] : 0;
        }

        int soaking(Circuit c, int cloud, int folk) {
            int said = lastSaid(c, SOAKS, cloud, folk);
            return said == BROKEN ? c.rage[cloud] : nearestTold(said);
        }

        private static int nearestTold(int said) {
            return Math.max(0, Math.min(MOST_TOLD, said));
        }

        /** The box to which a cloud goes: its own, if no road leads to the one told. */
        int goal(Circuit c, int cloud) {
            return goalAsSaid(c, cloud, lastSaid(c, GOES, cloud, NONE));
        }

        private static int goalAsSaid(Circuit c, int cloud, int said) {
            int here = c.place[cloud];
            int there = said == BROKEN ? (here + 1) % BOXES : said;
            return isBox(there) && c.roads.longFrom(here, there) > 0 ? there : here;
        }

        /** A law asks nothing of other clouds, so each may go before the next is asked. */
        void letAllGo(Circuit c) {
            for (int cloud = 0; cloud < c.clouds; cloud++) {
                c.place[cloud] = goalAsSaid(c, cloud, lastSaid(c, GOES, cloud, NONE));
            }
            c.term[NIGHT]++;
        }

        boolean isBarred(Circuit c, int cloud, int folk) {
            return lastSaid(c, BARS, cloud, folk) != BROKEN;
        }

        boolean canReach(Circuit c, int cloud, int folk) {
            return c.roads.areJoined(c.place[cloud], c.home[folk], c.roads.standing())
                    && lastSaid(c, BARS, cloud, folk) == BROKEN;
        }

        /** What the last clause of a verb that HOLDS says ("bars": 1); BROKEN, if none does. */
        private int lastSaid(Circuit c, int verb, int cloud, int folk) {
            Text law = c.hasLaw(c.inForce) ? c.texts[c.inForce] : null;
            if (law == null) {
                return BROKEN;
            }
            setWords(c, cloud, folk);
            for (int i = law.clauses - 1; i >= 0; i--) {
                if (law.verb[i] == verb && (law.test[i] == NONE || law.value(law.test[i], words, stack) == 1)) {
                    int said = law.first[i] == NONE ? 1 : law.value(law.first[i], words, stack);
                    if (said != BROKEN) {
                        return said;
                    }
                }
            }
            return BROKEN;
        }

        /** In the order of LAW_WORDS. */
        private void setWords(Circuit c, int cloud, int folk) {
            boolean ofFolk = c.hasFolk(folk);
            words[0] = cloud;
            words[1] = c.kind[cloud];
            words[2] = c.rage[cloud];
            words[3] = c.place[cloud];
            words[4] = folk;
            words[5] = !ofFolk ? NONE : c.hears(folk, cloud) ? 1 : 0;
            words[6] = ofFolk ? c.wet[folk] : NONE;
            words[7] = c.term[NIGHT];
            words[8] = c.term[MOOD];
        }
    }

    /** The latest sixteen deeds, and what was ahead of each. */
    private static final class Log {
        private static final int KEPT = 16;

        private final int[] deed = new int[KEPT];
        private final int[] whom = new int[KEPT];
        private final int[] before = new int[KEPT];
        private int next;
        int count;

        void keep(int itsDeed, int itsWhom, int wasBefore) {
            deed[next] = itsDeed;
            whom[next] = itsWhom;
            before[next] = wasBefore;
            next = (next + 1) % KEPT;
            count = Math.min(KEPT, count + 1);
        }

        void drop() {
            if (count > 0) {
                next = latest();
                count--;
            }
        }

        void clear() {
            count = 0;
        }

        private int latest() {
            return (next + KEPT - 1) % KEPT;
        }

        int latestDeed() {
            return deed[latest()];
        }

        int latestWhom() {
            return whom[latest()];
        }

        int latestBefore() {
            return before[latest()];
        }

        void copyFrom(Log other) {
            System.arraycopy(other.deed, 0, deed, 0, KEPT);
            System.arraycopy(other.whom, 0, whom, 0, KEPT);
            System.arraycopy(other.before, 0, before, 0, KEPT);
            next = other.next;
            count = other.count;
        }
    }

    /** What is done on a circuit: each answers 0 or more, or why it can't be. */
    private static final class Deeds {
        private static final int BOX_BITS = 3;
        private static final int BOX_MASK = 7;

        final Circuit circuit;
        final Log log;
        private final Laws laws;

        Deeds(Circuit itsCircuit, Log itsLog, Laws itsLaws) {
            circuit = itsCircuit;
            log = itsLog;
            laws = itsLaws;
        }

        int ringUp(int cloud, int folk) {
            if (!circuit.hasCloud(cloud) || !circuit.hasFolk(folk)) {
                return NO_SUCH;
            }
            if (!laws.canReach(circuit, cloud, folk)) {
                return CANNOT_BE;
            }
            boolean soaks = circuit.engaged[folk] != 0;
            int more = soaks ? laws.soaking(circuit, cloud, folk) : laws.told(circuit, cloud, folk);
            int[] held = soaks ? circuit.wet : circuit.knowing;
            log.keep(RINGS, soaks ? folk + MOST_FOLK : folk, held[folk]);
            held[folk] = Math.min(MOST_HELD, held[folk] + more);
            return more;
        }

        int turnEngaged(int folk) {
            if (!circuit.hasFolk(folk)) {
                return NO_SUCH;
            }
            log.keep(ENGAGES, folk, circuit.engaged[folk]);
            circuit.engaged[folk] = 1 - circuit.engaged[folk];
            return circuit.engaged[folk];
        }

        int turnSmashed(int box) {
            if (!isBox(box)) {
                return BAD_NUMBER;
            }
            log.keep(SMASHES, box, circuit.roads.smashed);
            circuit.roads.smashed ^= 1 << box;
            return (circuit.roads.smashed >> box) & 1;
        }

        int nextNight() {
            if (circuit.term[NIGHT] >= TERM_TOPS[NIGHT]) {
                return CANNOT_BE;
            }
            log.keep(PASSES, NONE, packedPlaces());
            laws.letAllGo(circuit);
            return circuit.term[NIGHT];
        }

        private int packedPlaces() {
            int packed = 0;
            for (int cloud = 0; cloud < MOST_CLOUDS; cloud++) {
                packed |= circuit.place[cloud] << (BOX_BITS * cloud);
            }
            return packed;
        }

        int takeBack() {
            if (log.count == 0) {
                return CANNOT_BE;
            }
            int deed = log.latestDeed();
            int whom = log.latestWhom();
            int before = log.latestBefore();
            if (deed == RINGS && whom < MOST_FOLK) {
                circuit.knowing[whom] = before;
            } else if (deed == RINGS) {
                circuit.wet[whom - MOST_FOLK] = before;
            } else if (deed == ENGAGES) {
                circuit.engaged[whom] = before;
            } else if (deed == SMASHES) {
                circuit.roads.smashed = before;
            } else {
                unpackPlaces(before);
                circuit.term[NIGHT]--;
            }
            log.drop();
            return deed;
        }

        private void unpackPlaces(int packed) {
            for (int cloud = 0; cloud < MOST_CLOUDS; cloud++) {
                circuit.place[cloud] = (packed >> (BOX_BITS * cloud)) & BOX_MASK;
            }
        }
    }

    /** Runs orders, wholly or not at all. */
    private static final class Orders {
        private final Deeds deeds;
        private final Circuit savedCircuit = new Circuit();
        private final Log savedLog = new Log();
        private final int[] words = new int[ORDER_WORD_COUNT];
        private final int[] stack = new int[STACK];
        int done;
        private int latest;
        /** Which clause of the latest orders could not be. */
        int stopped = NONE;

        Orders(Deeds itsDeeds) {
            deeds = itsDeeds;
        }

        boolean runWhole(Text text) {
            savedCircuit.copyFrom(deeds.circuit);
            savedLog.copyFrom(deeds.log);
            done = 0;
            latest = NONE;
            for (int i = 0; i < text.clauses; i++) {
                for (int time = 0; time < text.times[i]; time++) {
                    if (!runOnce(text, i)) {
                        stopped = i;
                        deeds.circuit.copyFrom(savedCircuit);
                        deeds.log.copyFrom(savedLog);
                        return false;
                    }
                }
            }
            return true;
        }

        private boolean runOnce(Text text, int clause) {
            setWords();
            if (text.test[clause] != NONE && text.value(text.test[clause], words, stack) != 1) {
                return true;
            }
            int one = text.first[clause] == NONE ? 0 : text.value(text.first[clause], words, stack);
            int other = text.second[clause] == NONE ? 0 : text.value(text.second[clause], words, stack);
            if (one == BROKEN || other == BROKEN) {
                return false;
            }
            int answer;
            switch (text.verb[clause]) {
                case RINGS:
                    answer = deeds.ringUp(one, other);
                    latest = answer;
                    break;
                case ENGAGES:
                    answer = deeds.turnEngaged(one);
                    break;
                case SMASHES:
                    answer = deeds.turnSmashed(one);
                    break;
                default:
                    answer = deeds.nextNight();
                    break;
            }
            done++;
            return answer >= 0;
        }

        /** In the order of ORDER_WORDS. */
        private void setWords() {
            Circuit c = deeds.circuit;
            words[0] = c.term[NIGHT];
            words[1] = done;
            words[2] = latest;
            words[3] = c.sumOf(c.knowing);
            words[4] = c.sumOf(c.wet);
            for (int cloud = 0; cloud < MOST_CLOUDS; cloud++) {
                words[FIRST_AT + cloud] = c.hasCloud(cloud) ? c.place[cloud] : NONE;
            }
            for (int folk = 0; folk < MOST_FOLK; folk++) {
                words[FIRST_BUSY + folk] = c.hasFolk(folk) ? c.engaged[folk] : NONE;
            }
        }
    }

    /** Who should answer whom, which cloud it can be, whom to ask, who has how much. */
    private static final class Answers {
        private static final int SETS = 32;
        private static final int NOBODY = 5;
        private static final int SILENT = MOST_TOLD + 1;

        private final Laws laws;
        private final int[] gain = new int[MOST_CLOUDS * MOST_FOLK];
        private final int[] best = new int[(MOST_CLOUDS + 1) * SETS];
        private final int[] alike = new int[SILENT + 1];
        private final int[] share = new int[MOST_FOLK];

        Answers(Laws itsLaws) {
            laws = itsLaws;
        }

        /** How much is answered at the most. */
        int most(Circuit c) {
            weigh(c);
            for (int taken = 0; taken < SETS; taken++) {
                best[c.clouds * SETS + taken] = 0;
            }
            for (int cloud = c.clouds - 1; cloud >= 0; cloud--) {
                for (int taken = 0; taken < SETS; taken++) {
                    int top = 0;
                    for (int who = 0; who <= NOBODY; who++) {
                        top = Math.max(top, mostWith(cloud, taken, who));
                    }
                    best[cloud * SETS + taken] = top;
                }
            }
            return best[0];
        }

        private void weigh(Circuit c) {
            for (int cloud = 0; cloud < c.clouds; cloud++) {
                for (int folk = 0; folk < MOST_FOLK; folk++) {
                    boolean can = folk < c.folks && c.engaged[folk] == 0 && laws.canReach(c, cloud, folk);
                    gain[cloud * MOST_FOLK + folk] = can ? laws.told(c, cloud, folk) : NONE;
                }
            }
        }

        /** The most of a cloud and those behind it, if that one answers it; NONE, if she can't. */
        private int mostWith(int cloud, int taken, int who) {
            int behind = (cloud + 1) * SETS;
            if (who == NOBODY) {
                return best[behind + taken];
            }
            int told = gain[cloud * MOST_FOLK + who];
            return told == NONE || ((taken >> who) & 1) != 0 ? NONE : told + best[behind + (taken | 1 << who)];
        }

        int listenerOf(Circuit c, int asked) {
            most(c);
            int taken = 0;
            for (int cloud = 0; cloud < c.clouds; cloud++) {
                int who = 0;
                for (int i = 0; i < NOBODY && mostWith(cloud, taken, who) != best[cloud * SETS + taken]; i++) {
                    who++;
                }
                if (cloud == asked) {
                    return who;
                }
                taken |= who == NOBODY ? 0 : 1 << who;
            }
            return NONE;
        }

        /** What one of the folk hears of a cloud, wherever it is; SILENT, if it is barred from her. */
        private int said(Circuit c, int cloud, int folk) {
            return laws.isBarred(c, cloud, folk) ? SILENT : laws.told(c, cloud, folk);
        }

        int candidates(Circuit c) {
            int bits = 0;
            for (int cloud = 0; cloud < c.clouds; cloud++) {
                boolean can = true;
                for (int i = 0; i < c.heardCount; i++) {
                    can = can && said(c, cloud, c.heardBy[i]) == c.heardTold[i];
                }
                bits |= can ? 1 << cloud : 0;
            }
            return bits;
        }

        /** Whom to ask, or how many clouds are left then at most. */
        int toAsk(Circuit c, boolean howMany) {
            int left = candidates(c);
            int who = NONE;
            int fewest = NONE;
            for (int folk = 0; folk < c.folks && left != 0; folk++) {
                int most = mostAlike(c, left, folk);
                if (who == NONE || most < fewest) {
                    who = folk;
                    fewest = most;
                }
            }
            return howMany ? fewest : who;
        }

        private int mostAlike(Circuit c, int left, int folk) {
            for (int i = 0; i <= SILENT; i++) {
                alike[i] = 0;
            }
            int most = 0;
            for (int cloud = 0; cloud < c.clouds; cloud++) {
                if (((left >> cloud) & 1) != 0) {
                    int group = said(c, cloud, folk);
                    alike[group]++;
                    most = Math.max(most, alike[group]);
                }
            }
            return most;
        }

        int fairShare(Circuit c, int folk) {
            for (int f = 0; f < MOST_FOLK; f++) {
                share[f] = 0;
            }
            for (int cloud = 0; cloud < c.clouds; cloud++) {
                int who = NONE;
                for (int f = 0; f < c.folks; f++) {
                    if ((who == NONE || share[f] < share[who]) && laws.canReach(c, cloud, f)) {
                        who = f;
                    }
                }
                if (who != NONE) {
                    share[who] += laws.told(c, cloud, who);
                }
            }
            return share[folk];
        }
    }

    /** What would be, worked out on a copy of the circuit. */
    private static final class Paper {
        private static final int DRAW_TIMES = 1103;
        private static final int DRAW_PLUS = 12345;
        private static final int DRAW_MODULO = 1000003;

        private final Laws laws;
        private final Circuit copy = new Circuit();
        /** How all was behind the latest seasons; empty ahead of any. */
        final Circuit season = new Circuit();
        private final Deeds seasonDeeds;
        private int drawState;

        Paper(Laws itsLaws) {
            laws = itsLaws;
            seasonDeeds = new Deeds(season, new Log(), itsLaws);
        }

        int placeBehind(Circuit now, int cloud, int nights) {
            copy.copyFrom(now);
            for (int night = 0; night < nights; night++) {
                laws.letAllGo(copy);
            }
            return copy.place[cloud];
        }

        /** In how many nights a box has a cloud first, or which cloud. */
        int firstIn(Circuit now, int box, boolean whichCloud) {
            copy.copyFrom(now);
            for (int night = 0; night <= MOST_AHEAD; night++) {
                for (int cloud = 0; cloud < copy.clouds; cloud++) {
                    if (copy.place[cloud] == box) {
                        return whichCloud ? cloud : night;
                    }
                }
                laws.letAllGo(copy);
            }
            return NONE;
        }

        int nightsToMeet(Circuit now, int one, int other) {
            copy.copyFrom(now);
            for (int night = 0; night <= MOST_AHEAD; night++) {
                if (copy.place[one] == copy.place[other]) {
                    return night;
                }
                laws.letAllGo(copy);
            }
            return NONE;
        }

        int nightsToReturn(Circuit now) {
            copy.copyFrom(now);
            for (int night = 1; night <= MOST_AHEAD; night++) {
                laws.letAllGo(copy);
                boolean same = true;
                for (int cloud = 0; cloud < copy.clouds; cloud++) {
                    same = same && copy.place[cloud] == now.place[cloud];
                }
                if (same) {
                    return night;
                }
            }
            return NONE;
        }

        Circuit underLaw(Circuit now, int law) {
            copy.copyFrom(now);
            copy.inForce = law;
            return copy;
        }

        /** How often a cloud rang. */
        int runSeasons(Circuit now, int seed, int n) {
            season.copyFrom(now);
            drawState = seed;
            int rang = 0;
            for (int i = 0; i < n && season.term[NIGHT] < TERM_TOPS[NIGHT]; i++) {
                int cloud = draw(season.clouds);
                int folk = draw(season.folks);
                int deed = draw(4);
                if (deed < 2) {
                    rang += seasonDeeds.ringUp(cloud, folk) >= 0 ? 1 : 0;
                } else if (deed == 2) {
                    seasonDeeds.turnEngaged(folk);
                } else {
                    seasonDeeds.turnSmashed(season.home[folk]);
                }
                seasonDeeds.nextNight();
            }
            return rang;
        }

        private int draw(int m) {
            drawState = (drawState * DRAW_TIMES + DRAW_PLUS) % DRAW_MODULO;
            return m > 0 ? drawState % m : 0;
        }
    }
}
