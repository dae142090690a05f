import java.util.NoSuchElementException;

/**
 * A barrier where salted goods must be declared. The document ../shared/DOC.md says what each call
 * answers, as numbered promises; the words in capitals in the comments here are its words.
 */
public final class SaltedGate {
    public static final int NONE = -1;

    /** What a call answers that was right, but to which there is nothing to tell. */
    private static final int NOTHING = -2;
    /** A gain may be NONE itself, so calls that answer gains are refused by this. */
    private static final int NO_GAIN = -10000;

    private static final int TAPE_BYTES = 1100;
    private static final int FEED_BYTES = 20;
    private static final int FARTHEST = 60;
    private static final int LAST_DAY = 300;
    private static final int MOST_COVER = 30;
    private static final int MOST_SUM = 999;
    private static final int MOST_TENS = 5;
    private static final int MOST_SEASONS = 50;

    private static final int MOST_MEANS = 4;
    private static final int MOST_TRAVELLERS = 4;
    private static final int MOST_GATES = 3;
    private static final int MOST_GOODS = 8;
    private static final int MOST_CROSSINGS = 6;
    private static final int MOST_CRUMBS = 5;
    private static final int MOST_UNDOS = 16;
    private static final int MOST_MARKS = 3;

    private static final int FRESH = 0;
    private static final int PLAIN = 1;
    private static final int WINE = 2;
    private static final int OLD = 3;
    private static final int OATH = 4;

    private static final int FINE = 0;
    private static final int NO_SUCH = 1;
    private static final int BAD_NUMBER = 2;
    private static final int NO_ROOM = 3;
    private static final int FAULTY = 4;
    private static final int NOT_SO = 5;
    private static final int NOTHING_THERE = 6;

    private final byte[] tape = new byte[TAPE_BYTES];
    private int taped;
    private final Reader reader = new Reader(tape);
    private Told told = new Told();
    private boolean stands;
    private final State now = new State();
    private final History history = new History();
    private final Plan plan = new Plan();
    private int trouble;

    public SaltedGate() {
    }

    // ---- the barrier

    public int feed(int a, int b, int c, int d, int e) {
        if (taped + FEED_BYTES > TAPE_BYTES) {
            return NONE;
        }
        putBytes(a);
        putBytes(b);
        putBytes(c);
        putBytes(d);
        putBytes(e);
        return taped;
    }

    private void putBytes(int number) {
        for (int shift = 24; shift >= 0 && taped < TAPE_BYTES; shift -= 8) {
            tape[taped] = (byte) (number >> shift);
            taped++;
        }
    }

    public int barrier(int n) {
        if (refused(n >= 0 && n <= taped ? FINE : BAD_NUMBER)) {
            return NONE;
        }
        boolean reads = reader.readText(n);
        taped = 0;
        if (refused(reads ? FINE : FAULTY)) {
            return NONE;
        }
        told = reader.exchange(told);
        stands = true;
        now.begin(told);
        history.forget();
        return told.goodCount;
    }

    public int fault() {
        return reader.fault;
    }

    public int where() {
        return trouble == FAULTY ? reader.place : NONE;
    }

    // ---- now

    public int good(int g, int what) {
        if (refused(what >= 0 && what <= 5 ? troubleOfGood(g) : NO_SUCH)) {
            return NONE;
        }
        Good row = told.goods[g];
        switch (what) {
            case 0:
                return row.kind;
            case 1:
                return row.means;
            case 2:
                return row.owner;
            case 3:
                return row.weighs;
            case 4:
                return now.fateOf(g);
            default:
                return now.hidden >> g & 1;
        }
    }

    public int traveller(int t, int what) {
        if (refused(what >= 0 && what <= 3 ? troubleOfTraveller(t) : NO_SUCH)) {
            return NONE;
        }
        switch (what) {
            case 0:
                return told.travellers[t].allowed;
            case 1:
                return hungerLeft(t);
            case 2:
                return now.paid[t];
            default:
                return goodsHad(t);
        }
    }

    public int gate(int k, int what) {
        if (refused(what >= 0 && what <= 2 ? troubleOfGate(k) : NO_SUCH)) {
            return NONE;
        }
        Gate row = told.gates[k];
        switch (what) {
            case 0:
                return row.nose;
            case 1:
                return row.opens;
            default:
                return row.shuts;
        }
    }

    // ---- behind so many days more

    public int age(int g, int days) {
        if (refused(troubleOfGoodIn(g, days))) {
            return NONE;
        }
        return told.ageOn(g, now.day + days);
    }

    public int worth(int g, int days) {
        if (refused(troubleOfGoodIn(g, days))) {
            return NONE;
        }
        return told.worthOn(g, now.day + days);
    }

    public int duty(int g, int days) {
        if (refused(troubleOfGoodIn(g, days))) {
            return NONE;
        }
        return told.dutyOn(g, now.day + days, false);
    }

    public int smell(int g, int days) {
        if (refused(troubleOfGoodIn(g, days))) {
            return NONE;
        }
        return told.smellOn(g, now.day + days, ~now.gone());
    }

    public int turned(int g) {
        if (refused(troubleOfGood(g))) {
            return NONE;
        }
        int keeps = told.goods[g].keeps;
        return keeps == NOTHING ? NOTHING : Math.max(0, keeps + 1 - told.ageOn(g, now.day));
    }

    public int asked(int t, int gate, int days) {
        if (refused(troubleOfCrossing(t, gate, days))) {
            return NONE;
        }
        return askedBehind(t, gate, days, false);
    }

    public int found(int t, int gate, int days) {
        if (refused(troubleOfCrossing(t, gate, days))) {
            return NONE;
        }
        return told.foundAt(gate, now.day + days, goodsHad(t), now.hidden);
    }

    public int otherLaw(int t, int gate, int days) {
        if (refused(troubleOfCrossing(t, gate, days))) {
            return NONE;
        }
        return askedBehind(t, gate, days, true);
    }

    public int carries(int t, int days) {
        if (refused(either(troubleOfTraveller(t), troubleOfDays(days)))) {
            return NONE;
        }
        return told.worthOfAll(goodsHad(t), now.day + days);
    }

    public int dutyBy(int means, int days) {
        boolean is = means >= 0 && means < told.meansCount;
        if (refused(either(is ? FINE : NO_SUCH, troubleOfDays(days)))) {
            return NONE;
        }
        int bits = told.goodsBy(means) & ~now.gone();
        return told.dutyOfAll(bits, now.day + days, false);
    }

    public int nearest(int t, int gate, int days) {
        if (refused(troubleOfCrossing(t, gate, days))) {
            return NONE;
        }
        int day = now.day + days;
        int has = goodsHad(t);
        int hidden = has & now.hidden & ~told.foundAt(gate, day, has, now.hidden);
        int best = NOTHING;
        int most = -1;
        for (int g = 0; g < told.goodCount; g++) {
            int smells = (hidden >> g & 1) == 0 ? -1 : told.smellOn(g, day, has);
            if (smells > most) {
                most = smells;
                best = g;
            }
        }
        return best;
    }

    public int bestGate(int t, int days) {
        if (refused(either(troubleOfTraveller(t), troubleOfDays(days)))) {
            return NONE;
        }
        int best = 0;
        int least = askedBehind(t, 0, days, false);
        for (int k = 1; k < told.gateCount; k++) {
            int here = askedBehind(t, k, days, false);
            if (here < least) {
                least = here;
                best = k;
            }
        }
        return best;
    }

    // ---- what is best

    public int cheapestDay(int t, int gate) {
        if (refused(troubleOfCrossing(t, gate, 0))) {
            return NONE;
        }
        return firstCheapestDay(t, gate);
    }

    public int cheapest(int t, int gate) {
        if (refused(troubleOfCrossing(t, gate, 0))) {
            return NONE;
        }
        return askedBehind(t, gate, firstCheapestDay(t, gate), false);
    }

    private int firstCheapestDay(int t, int gate) {
        int has = goodsHad(t);
        int best = 0;
        int least = told.askedAt(t, gate, now.day, has, now.hidden, false);
        for (int n = 1; n <= FARTHEST; n++) {
            int then = told.askedAt(t, gate, now.day + n, has, now.hidden, false);
            if (then < least) {
                least = then;
                best = n;
            }
        }
        return best;
    }

    public int eats(int t, int gate, int days) {
        if (refused(troubleOfCrossing(t, gate, days))) {
            return NONE;
        }
        return bestMeal(t, gate, days);
    }

    public int eatsAsked(int t, int gate, int days) {
        if (refused(troubleOfCrossing(t, gate, days))) {
            return NONE;
        }
        int left = goodsHad(t) & ~bestMeal(t, gate, days);
        return told.askedAt(t, gate, now.day + days, left, now.hidden, false);
    }

    private int bestMeal(int t, int gate, int days) {
        int day = now.day + days;
        int has = goodsHad(t);
        int hunger = hungerLeft(t);
        int best = 0;
        int least = told.askedAt(t, gate, day, has, now.hidden, false);
        for (int bits = 1; bits <= has; bits++) {
            if ((bits & ~has) != 0 || Integer.bitCount(bits) > hunger) {
                continue;
            }
            int without = told.askedAt(t, gate, day, has & ~bits, now.hidden, false);
            if (isBetter(without, bits, least, best)) {
                least = without;
                best = bits;
            }
        }
        return best;
    }

    /** Bits are tried from the least on, so of like ones as few the first stays. */
    private static boolean isBetter(int sum, int bits, int least, int best) {
        return sum < least || sum == least && Integer.bitCount(bits) < Integer.bitCount(best);
    }

    public int hideBest(int t, int gate, int days) {
        if (refused(troubleOfCrossing(t, gate, days))) {
            return NONE;
        }
        return bestHidden(t, gate, days);
    }

    public int hideAsked(int t, int gate, int days) {
        if (refused(troubleOfCrossing(t, gate, days))) {
            return NONE;
        }
        int hidden = bestHidden(t, gate, days);
        return told.askedAt(t, gate, now.day + days, goodsHad(t), hidden, false);
    }

    private int bestHidden(int t, int gate, int days) {
        int day = now.day + days;
        int has = goodsHad(t);
        // a SMELL does not depend on what else is hidden, so each good is safe by itself or never
        int safe = has & ~told.foundAt(gate, day, has, has);
        int best = 0;
        int least = told.askedFor(t, 0, has, day, false);
        for (int bits = 1; bits <= safe; bits++) {
            if ((bits & ~safe) != 0) {
                continue;
            }
            int shown = told.askedFor(t, 0, has & ~bits, day, false);
            if (isBetter(shown, bits, least, best)) {
                least = shown;
                best = bits;
            }
        }
        return best;
    }

    public int cover(int t, int gate, int days) {
        if (refused(troubleOfCrossing(t, gate, days))) {
            return NONE;
        }
        int has = goodsHad(t);
        int day = now.day + days;
        int strongest = 0;
        for (int g = 0; g < told.goodCount; g++) {
            if ((has & now.hidden & 1 << g) != 0) {
                strongest = Math.max(strongest, told.smellOn(g, day, has));
            }
        }
        for (int more = 0; more <= MOST_COVER; more++) {
            if (strongest - 2 * more < told.gates[gate].nose) {
                return more;
            }
        }
        return NOTHING;
    }

    public int hold(int g) {
        if (refused(troubleOfGood(g))) {
            return NONE;
        }
        return bestHold(g);
    }

    public int holdGain(int g) {
        if (refused(troubleOfGood(g))) {
            return NO_GAIN;
        }
        return heldFor(g, bestHold(g));
    }

    private int bestHold(int g) {
        int best = 0;
        int most = heldFor(g, 0);
        for (int n = 1; n <= FARTHEST; n++) {
            int had = heldFor(g, n);
            if (had > most) {
                most = had;
                best = n;
            }
        }
        return best;
    }

    private int heldFor(int g, int n) {
        int day = now.day + n;
        return told.worthOn(g, day) - told.dutyOn(g, day, false) - told.fee * n;
    }

    public int gain(int g, int days) {
        if (refused(troubleOfGoodIn(g, days))) {
            return NO_GAIN;
        }
        return told.gainOn(g, now.day + days);
    }

    public int bestGood() {
        if (refused(troubleOfBarrier())) {
            return NONE;
        }
        int gone = now.gone();
        int best = NOTHING;
        int most = NO_GAIN;
        for (int g = 0; g < told.goodCount; g++) {
            for (int n = 0; n <= FARTHEST && (gone >> g & 1) == 0; n++) {
                int gains = told.gainOn(g, now.day + n);
                if (gains > most) {
                    most = gains;
                    best = 100 * g + n;
                }
            }
        }
        return best;
    }

    public int search(int many) {
        boolean right = many >= 0 && many <= MOST_TRAVELLERS;
        if (refused(either(troubleOfBarrier(), right ? FINE : BAD_NUMBER))) {
            return NONE;
        }
        int wanted = Math.min(many, told.travellerCount);
        int best = 0;
        int most = -1;
        for (int bits = 0; bits < 1 << told.travellerCount; bits++) {
            int hidden = Integer.bitCount(bits) == wanted ? hiddenWorth(bits) : -1;
            if (hidden > most) {
                most = hidden;
                best = bits;
            }
        }
        return best;
    }

    private int hiddenWorth(int travellers) {
        int sum = 0;
        for (int t = 0; t < told.travellerCount; t++) {
            if ((travellers >> t & 1) != 0) {
                sum += told.worthOfAll(goodsHad(t) & now.hidden, now.day);
            }
        }
        return sum;
    }

    // ---- the plan

    public int planned(int k) {
        if (refused(k >= 0 && k < told.crossingCount ? FINE : NO_SUCH)) {
            return NONE;
        }
        plan.run(told, false);
        return plan.asks[k];
    }

    public int judge() {
        if (refused(troubleOfBarrier())) {
            return NONE;
        }
        for (int k = 0; k < told.crossingCount; k++) {
            if (!told.isOpenFor(told.crossings[k])) {
                return k;
            }
        }
        return NOTHING;
    }

    public int planOver(boolean seized) {
        if (refused(troubleOfBarrier())) {
            return NONE;
        }
        plan.run(told, false);
        return seized ? plan.state.seized : plan.state.over;
    }

    // ---- crumbs, sums

    public int fits() {
        boolean some = told.crumbs.count > 0;
        if (refused(either(troubleOfBarrier(), some ? FINE : NOTHING_THERE))) {
            return NONE;
        }
        return told.crumbs.countRows(told);
    }

    public int could(int c) {
        if (refused(troubleOfCrumb(c))) {
            return NONE;
        }
        return told.crumbs.leftBy(told, c);
    }

    public int surely(int c) {
        if (refused(troubleOfCrumb(c))) {
            return NONE;
        }
        int bits = told.crumbs.leftBy(told, c);
        for (int t = 0; t < told.travellerCount; t++) {
            if (bits == 1 << t) {
                return t;
            }
        }
        return NOTHING;
    }

    public long owed(int sum, int tens, boolean lower) {
        boolean right = sum >= 0 && sum <= MOST_SUM && tens >= 0 && tens <= MOST_TENS;
        if (refused(either(troubleOfBarrier(), right ? FINE : BAD_NUMBER))) {
            return NONE;
        }
        long above = sum;
        long below = 1;
        for (int i = 0; i < tens; i++) {
            above *= 100 + told.interest;
            below *= 100;
        }
        long common = commonPart(above, below);
        return (lower ? below : above) / common;
    }

    /** The greatest common divisor, at least 1; the numbers of a debt need far fewer rounds. */
    private static long commonPart(long above, long below) {
        long one = above;
        long other = below;
        for (int round = 0; round < 200 && other != 0; round++) {
            long rest = one % other;
            one = other;
            other = rest;
        }
        return Math.max(1, one);
    }

    // ---- seasons

    public int season(int seed) {
        if (refused(either(troubleOfBarrier(), troubleOfSeed(seed)))) {
            return NONE;
        }
        plan.seed = seed;
        plan.run(told, true);
        return plan.state.paidByAll();
    }

    public int seizedIn(int g, int seed, int n) {
        int ofMany = n >= 1 && n <= MOST_SEASONS ? FINE : BAD_NUMBER;
        if (refused(either(troubleOfGood(g), either(troubleOfSeed(seed), ofMany)))) {
            return NONE;
        }
        plan.seed = seed;
        int times = 0;
        for (int i = 0; i < n; i++) {
            plan.run(told, true);
            times += plan.state.seized >> g & 1;
        }
        return times;
    }

    // ---- acts

    public boolean eat(int g) {
        if (refused(either(troubleOfGood(g), troubleOfHaving(g)))) {
            return false;
        }
        if (refused(hungerLeft(told.goods[g].owner) > 0 ? FINE : NOT_SO)) {
            return false;
        }
        history.keep(now);
        now.eaten |= 1 << g;
        return true;
    }

    public boolean hide(int g, boolean is) {
        if (refused(either(troubleOfGood(g), troubleOfHaving(g)))) {
            return false;
        }
        boolean was = (now.hidden >> g & 1) != 0;
        if (refused(was == is ? NOT_SO : FINE)) {
            return false;
        }
        history.keep(now);
        now.hidden ^= 1 << g;
        return true;
    }

    public int cross(int t, int gate) {
        if (refused(troubleOfCrossing(t, gate, 0))) {
            return NONE;
        }
        int has = goodsHad(t);
        if (refused(has == 0 ? NOT_SO : FINE)) {
            return NONE;
        }
        history.keep(now);
        int seized = told.foundAt(gate, now.day, has, now.hidden);
        int asks = told.askedFor(t, seized, has & ~now.hidden, now.day, false);
        now.pass(t, has, seized, asks);
        return asks;
    }

    public int days(int n) {
        if (refused(either(troubleOfBarrier(), n >= 1 && n <= FARTHEST ? FINE : BAD_NUMBER))) {
            return NONE;
        }
        if (refused(now.day + n > LAST_DAY ? NO_ROOM : FINE)) {
            return NONE;
        }
        history.keep(now);
        now.day += n;
        return now.day;
    }

    public boolean undo() {
        return !refused(history.takeBack(now) ? FINE : NOTHING_THERE);
    }

    public int mark() {
        boolean room = history.markCount < MOST_MARKS;
        if (refused(either(troubleOfBarrier(), room ? FINE : NO_ROOM))) {
            return NONE;
        }
        return history.setMark(now);
    }

    public boolean back(int mark) {
        return !refused(history.goBack(mark, now) ? FINE : NO_SUCH);
    }

    // ---- what is told

    public int led(int i) throws NoSuchElementException {
        int left = i;
        for (int g = 0; g < told.goodCount && left >= 0; g++) {
            if (told.isTurned(g, now.day)) {
                if (left == 0) {
                    return g;
                }
                left--;
            }
        }
        throw new NoSuchElementException();
    }

    public int size(int what) {
        switch (what) {
            case 0:
                return told.fee;
            case 1:
                return told.interest;
            case 2:
                return told.meansCount;
            case 3:
                return told.travellerCount;
            case 4:
                return told.gateCount;
            case 5:
                return told.goodCount;
            case 6:
                return told.crossingCount;
            case 7:
                return told.priceCount;
            case 8:
                return told.crumbs.count;
            case 9:
                return now.day;
            case 10:
                return history.kept;
            case 11:
                return history.markCount;
            case 12:
                return taped;
            default:
                return NONE;
        }
    }

    public int trouble() {
        return trouble;
    }

    // ---- what calls are refused by

    private boolean refused(int number) {
        trouble = number;
        return number != FINE;
    }

    private static int either(int first, int second) {
        return first != FINE ? first : second;
    }

    private int troubleOfBarrier() {
        return stands ? FINE : NO_SUCH;
    }

    private int troubleOfGood(int g) {
        return g >= 0 && g < told.goodCount ? FINE : NO_SUCH;
    }

    private int troubleOfTraveller(int t) {
        return t >= 0 && t < told.travellerCount ? FINE : NO_SUCH;
    }

    private int troubleOfGate(int k) {
        return k >= 0 && k < told.gateCount ? FINE : NO_SUCH;
    }

    private int troubleOfCrumb(int c) {
        return c >= 0 && c < told.crumbs.count ? FINE : NO_SUCH;
    }

    private static int troubleOfDays(int days) {
        return days >= 0 && days <= FARTHEST ? FINE : BAD_NUMBER;
    }

    private static int troubleOfSeed(int seed) {
        return seed >= 0 && seed < Plan.SEEDS ? FINE : BAD_NUMBER;
    }

    private int troubleOfGoodIn(int g, int days) {
        return either(troubleOfGood(g), troubleOfDays(days));
    }

    private int troubleOfCrossing(int t, int gate, int days) {
        return either(either(troubleOfTraveller(t), troubleOfGate(gate)), troubleOfDays(days));
    }

    /** Asked of goods that there may not be, too: then another trouble is ahead of this one. */
    private int troubleOfHaving(int g) {
        return (now.gone() >> (g & 31) & 1) == 0 ? FINE : NOT_SO;
    }

    // ---- what a traveller has now

    private int goodsHad(int t) {
        return told.travellers[t].goods & ~now.gone();
    }

    private int hungerLeft(int t) {
        Traveller row = told.travellers[t];
        return row.hunger - Integer.bitCount(row.goods & now.eaten);
    }

    private int askedBehind(int t, int gate, int days, boolean byOther) {
        return told.askedAt(t, gate, now.day + days, goodsHad(t), now.hidden, byOther);
    }

    // ---- rows of the text

    private static final class Means {
        private int rate;
        private int otherRate;
        private int keeps;
        private boolean priced;
        private int here;
        private int there;
    }

    private static final class Traveller {
        private int allowed;
        private int hunger;
        private int goods;
    }

    private static final class Gate {
        private int nose;
        private int opens;
        private int shuts;
    }

    private static final class Good {
        private int kind;
        private int means;
        private int owner;
        private int age;
        /** The greatest AGE at which it isn't TURNED; NOTHING if it never is. */
        private int keeps;
        private int weighs;
        private int worth;
    }

    private static final class Crossing {
        private int traveller;
        private int gate;
        private int day;
        private int hour;
    }

    /** CRUMBS. A row of travellers is a number of two bits a crumb, as there are four at most. */
    private static final class Crumbs {
        private int count;
        private final int[] means = new int[MOST_CRUMBS];
        private final int[] day = new int[MOST_CRUMBS];
        private final int[] may = new int[MOST_CRUMBS];

        private void put(int byMeans, int onDay) {
            if (count < MOST_CRUMBS) {
                means[count] = byMeans;
                day[count] = onDay;
                count++;
            }
        }

        private int countRows(Told told) {
            lookWhoMay(told);
            int rows = 0;
            for (int row = 0; row < 1 << 2 * count; row++) {
                if (isRow(row)) {
                    rows++;
                }
            }
            return rows;
        }

        private int leftBy(Told told, int c) {
            lookWhoMay(told);
            int bits = 0;
            for (int row = 0; row < 1 << 2 * count; row++) {
                if (isRow(row)) {
                    bits |= 1 << whoIn(row, c);
                }
            }
            return bits;
        }

        private void lookWhoMay(Told told) {
            for (int c = 0; c < count; c++) {
                may[c] = told.ownersOf(means[c], day[c]);
            }
        }

        private static int whoIn(int row, int c) {
            return row >> 2 * c & 3;
        }

        private boolean isRow(int row) {
            for (int c = 0; c < count; c++) {
                int who = whoIn(row, c);
                if ((may[c] >> who & 1) == 0) {
                    return false;
                }
                for (int b = 0; b < c; b++) {
                    if (day[b] == day[c] && whoIn(row, b) == who) {
                        return false;
                    }
                }
            }
            return true;
        }
    }

    /** A BARRIER as told, and what follows from it for goods on a day. */
    private static final class Told {
        private int fee;
        private int interest;
        private int meansCount;
        private int travellerCount;
        private int gateCount;
        private int goodCount;
        private int crossingCount;
        private int priceCount;
        private int hidden;
        private final Means[] means = new Means[MOST_MEANS];
        private final Traveller[] travellers = new Traveller[MOST_TRAVELLERS];
        private final Gate[] gates = new Gate[MOST_GATES];
        private final Good[] goods = new Good[MOST_GOODS];
        private final Crossing[] crossings = new Crossing[MOST_CROSSINGS];
        private final Crumbs crumbs = new Crumbs();

        private Told() {
            for (int i = 0; i < MOST_MEANS; i++) {
                means[i] = new Means();
            }
            for (int i = 0; i < MOST_TRAVELLERS; i++) {
                travellers[i] = new Traveller();
            }
            for (int i = 0; i < MOST_GATES; i++) {
                gates[i] = new Gate();
            }
            for (int i = 0; i < MOST_GOODS; i++) {
                goods[i] = new Good();
            }
            for (int i = 0; i < MOST_CROSSINGS; i++) {
                crossings[i] = new Crossing();
            }
        }

        /** The rows are used again; what isn't set by reading a LINE is set back here. */
        private void clear() {
            meansCount = 0;
            travellerCount = 0;
            gateCount = 0;
            goodCount = 0;
            crossingCount = 0;
            priceCount = 0;
            hidden = 0;
            crumbs.count = 0;
            for (int i = 0; i < MOST_MEANS; i++) {
                means[i].priced = false;
            }
            for (int i = 0; i < MOST_TRAVELLERS; i++) {
                travellers[i].goods = 0;
            }
        }

        private int ageOn(int g, int day) {
            return goods[g].age + day;
        }

        private int tensOn(int g, int day) {
            return ageOn(g, day) / 10;
        }

        private boolean isTurned(int g, int day) {
            Good row = goods[g];
            return row.keeps != NOTHING && row.age + day > row.keeps;
        }

        private int worthOn(int g, int day) {
            if (isTurned(g, day)) {
                return 0;
            }
            Good row = goods[g];
            return row.kind == WINE ? row.worth + tensOn(g, day) : row.worth;
        }

        private int dutyOn(int g, int day, boolean byOther) {
            Good row = goods[g];
            if (row.kind == FRESH || isTurned(g, day)) {
                return 0;
            }
            Means by = means[row.means];
            return row.weighs * (byOther ? by.otherRate : by.rate) * tensOn(g, day);
        }

        private int smellOn(int g, int day, int has) {
            Good row = goods[g];
            int strength = row.weighs + tensOn(g, day);
            if (row.kind == OLD) {
                strength *= 2;
            }
            int covering = freshOn(day, has & travellers[row.owner].goods & ~(1 << g));
            return Math.max(0, strength - 2 * covering);
        }

        private int freshOn(int day, int bits) {
            int many = 0;
            for (int g = 0; g < goodCount; g++) {
                if ((bits >> g & 1) != 0 && goods[g].kind == FRESH && !isTurned(g, day)) {
                    many++;
                }
            }
            return many;
        }

        private int gainOn(int g, int day) {
            Good row = goods[g];
            if (row.kind == FRESH) {
                return 0;
            }
            Means by = means[row.means];
            int here = by.priced ? by.here : 0;
            int there = by.priced ? by.there : 0;
            if (isTurned(g, day)) {
                return -row.weighs * here;
            }
            return row.weighs * (there - here) - dutyOn(g, day, false);
        }

        private int goodsBy(int byMeans) {
            int bits = 0;
            for (int g = 0; g < goodCount; g++) {
                if (goods[g].means == byMeans) {
                    bits |= 1 << g;
                }
            }
            return bits;
        }

        private int ownersOf(int byMeans, int day) {
            int bits = 0;
            for (int g = 0; g < goodCount; g++) {
                if (goods[g].means == byMeans && !isTurned(g, day)) {
                    bits |= 1 << goods[g].owner;
                }
            }
            return bits;
        }

        private int worthOfAll(int bits, int day) {
            int sum = 0;
            for (int g = 0; g < goodCount; g++) {
                if ((bits >> g & 1) != 0) {
                    sum += worthOn(g, day);
                }
            }
            return sum;
        }

        private int dutyOfAll(int bits, int day, boolean byOther) {
            int sum = 0;
            for (int g = 0; g < goodCount; g++) {
                if ((bits >> g & 1) != 0) {
                    sum += dutyOn(g, day, byOther);
                }
            }
            return sum;
        }

        private int foundAt(int gate, int day, int has, int concealed) {
            int bits = 0;
            for (int g = 0; g < goodCount; g++) {
                boolean here = (has & concealed & 1 << g) != 0;
                if (here && smellOn(g, day, has) >= gates[gate].nose) {
                    bits |= 1 << g;
                }
            }
            return bits;
        }

        private int askedFor(int t, int seized, int shown, int day, boolean byOther) {
            int declared = dutyOfAll(shown, day, byOther) - travellers[t].allowed;
            return 3 * dutyOfAll(seized, day, byOther) + Math.max(0, declared);
        }

        private int askedAt(int t, int gate, int day, int has, int concealed, boolean byOther) {
            int seized = foundAt(gate, day, has, concealed);
            return askedFor(t, seized, has & ~concealed, day, byOther);
        }

        private boolean isOpenFor(Crossing at) {
            Gate by = gates[at.gate];
            return by.opens <= at.hour && at.hour <= by.shuts;
        }
    }

    /** What became of all, up to a day. */
    private static final class State {
        private int day;
        private int eaten;
        private int over;
        private int seized;
        private int hidden;
        private final int[] paid = new int[MOST_TRAVELLERS];

        private void begin(Told told) {
            day = 0;
            eaten = 0;
            over = 0;
            seized = 0;
            hidden = told.hidden;
            for (int t = 0; t < MOST_TRAVELLERS; t++) {
                paid[t] = 0;
            }
        }

        private void copyFrom(State other) {
            day = other.day;
            eaten = other.eaten;
            over = other.over;
            seized = other.seized;
            hidden = other.hidden;
            for (int t = 0; t < MOST_TRAVELLERS; t++) {
                paid[t] = other.paid[t];
            }
        }

        private int gone() {
            return eaten | over | seized;
        }

        private int fateOf(int g) {
            int bit = 1 << g;
            if ((eaten & bit) != 0) {
                return 1;
            }
            if ((over & bit) != 0) {
                return 2;
            }
            return (seized & bit) != 0 ? 3 : 0;
        }

        private void pass(int t, int has, int taken, int asks) {
            seized |= taken;
            over |= has & ~taken;
            paid[t] += asks;
        }

        private int paidByAll() {
            int sum = 0;
            for (int t = 0; t < MOST_TRAVELLERS; t++) {
                sum += paid[t];
            }
            return sum;
        }
    }

    /** What stood ahead of the latest ACTS, in a ring, and what stood by the MARKS. */
    private static final class History {
        private final State[] before = new State[MOST_UNDOS];
        private int oldest;
        private int kept;
        private final State[] marks = new State[MOST_MARKS];
        private int markCount;

        private History() {
            for (int i = 0; i < MOST_UNDOS; i++) {
                before[i] = new State();
            }
            for (int i = 0; i < MOST_MARKS; i++) {
                marks[i] = new State();
            }
        }

        private void forget() {
            kept = 0;
            markCount = 0;
        }

        private void keep(State state) {
            if (kept == MOST_UNDOS) {
                oldest = (oldest + 1) % MOST_UNDOS;
                kept--;
            }
            before[(oldest + kept) % MOST_UNDOS].copyFrom(state);
            kept++;
        }

        private boolean takeBack(State state) {
            if (kept == 0) {
                return false;
            }
            kept--;
            state.copyFrom(before[(oldest + kept) % MOST_UNDOS]);
            return true;
        }

        private int setMark(State state) {
            if (markCount >= MOST_MARKS) {
                return NONE;
            }
            marks[markCount].copyFrom(state);
            markCount++;
            return markCount - 1;
        }

        private boolean goBack(int number, State state) {
            if (number < 0 || number >= markCount) {
                return false;
            }
            state.copyFrom(marks[number]);
            kept = 0;
            return true;
        }
    }

    /** THE PLAN, followed by noses, or by DRAWS as a SEASON. */
    private static final class Plan {
        private static final int SEEDS = 65537;

        private final State state = new State();
        private final int[] asks = new int[MOST_CROSSINGS];
        private int seed;

        private void run(Told told, boolean drawn) {
            state.begin(told);
            for (int k = 0; k < told.crossingCount; k++) {
                Crossing at = told.crossings[k];
                asks[k] = told.isOpenFor(at) ? passAt(told, at, drawn) : NOTHING;
            }
        }

        private int passAt(Told told, Crossing at, boolean drawn) {
            int has = told.travellers[at.traveller].goods & ~state.gone();
            int seized = drawn
                    ? drawnAt(told, at.day, has)
                    : told.foundAt(at.gate, at.day, has, state.hidden);
            int sum = told.askedFor(at.traveller, seized, has & ~state.hidden, at.day, false);
            state.pass(at.traveller, has, seized, sum);
            return sum;
        }

        private int drawnAt(Told told, int day, int has) {
            int bits = 0;
            for (int g = 0; g < told.goodCount; g++) {
                if ((has & state.hidden & 1 << g) != 0) {
                    seed = (75 * seed + 74) % SEEDS;
                    if (seed % 100 < told.smellOn(g, day, has)) {
                        bits |= 1 << g;
                    }
                }
            }
            return bits;
        }
    }

    /**
     * Reads a text into rows. Behind the first FAULT the steps go on without effect on it: the rows
     * are thrown away then, so no step needs to ask whether the one ahead of it went well.
     */
    private static final class Reader {
        private static final int FORM = 1;
        private static final int UNTOLD = 2;
        private static final int AGAIN = 3;
        private static final int BOUNDS = 4;
        private static final int MANY = 5;
        private static final int LACKS = 6;

        private static final int END = 0;
        private static final int WORD = 1;
        private static final int WHOLE = 2;
        private static final int PART = 3;
        private static final int ODD = 4;
        private static final int LONGEST_WORD = 9;
        private static final int LONGEST_WHOLE = 3;

        private static final int BARRIER = 0;
        private static final int MEANS = 1;
        private static final int TRAVELLER = 2;
        private static final int GATE = 3;
        private static final int GOOD = 4;
        private static final int HIDES = 5;
        private static final int CROSSES = 6;
        private static final int PRICE = 7;
        private static final int CRUMB = 8;
        private static final int MOST_NAMES =
                MOST_MEANS + MOST_TRAVELLERS + MOST_GATES + MOST_GOODS;
        private static final int FRESH_KEEPS = 3;

        private final byte[] text;
        private int length;
        private Told rows = new Told();
        private boolean barrierTold;
        private int fault;
        private int place;

        // the TOKEN at hand: what it is, where it stands, of a WORD or WHOLE its code or value
        private int kind;
        private int start;
        private int end;
        private long value;

        /** Codes of the WORDS that are no NAMES; those that begin a LINE first, in their order. */
        private final long[] reserved;
        private int nameCount;
        private final long[] names = new long[MOST_NAMES];
        private final int[] nameSort = new int[MOST_NAMES];
        private final int[] nameNumber = new int[MOST_NAMES];

        private Reader(byte[] tape) {
            text = tape;
            reserved = new long[] {
                codeOf("barrier"), codeOf("means"), codeOf("traveller"), codeOf("gate"),
                codeOf("good"), codeOf("hides"), codeOf("crosses"), codeOf("price"),
                codeOf("crumb"), codeOf("fresh"), codeOf("by")
            };
        }

        /** Hands out the rows that were read, for others to be used next time. */
        private Told exchange(Told others) {
            Told read = rows;
            rows = others;
            return read;
        }

        private boolean readText(int bytes) {
            length = Math.min(bytes, text.length);
            fault = 0;
            place = 0;
            barrierTold = false;
            nameCount = 0;
            rows.clear();
            end = 0;
            step();
            readLine();
            for (int lines = 1; lines < length && fault == 0 && kind == PART; lines++) {
                step();
                readLine();
            }
            if (kind != END) {
                fail(FORM);
            } else if (rows.travellerCount == 0 || rows.gateCount == 0) {
                fail(LACKS);
            }
            return fault == 0;
        }

        private void fail(int number) {
            if (fault == 0) {
                fault = number;
                place = start;
            }
        }

        // -- TOKENS

        private void step() {
            start = end;
            while (start < length && text[start] == ' ') {
                start++;
            }
            end = start;
            if (start >= length) {
                kind = END;
            } else if (text[start] >= 'a' && text[start] <= 'z') {
                takeLetters();
            } else if (text[start] >= '0' && text[start] <= '9') {
                takeDigits();
            } else {
                kind = text[start] == ';' ? PART : ODD;
                end++;
            }
        }

        private void takeLetters() {
            value = 0;
            while (end < length && text[end] >= 'a' && text[end] <= 'z') {
                value = 32 * value + text[end] - 'a' + 1;
                end++;
            }
            kind = end - start <= LONGEST_WORD ? WORD : ODD;
        }

        private void takeDigits() {
            value = 0;
            while (end < length && text[end] >= '0' && text[end] <= '9') {
                value = 10 * value + text[end] - '0';
                end++;
            }
            kind = end - start <= LONGEST_WHOLE ? WHOLE : ODD;
        }

        /** Five bits a letter: nine letters fit a long, and no two WORDS have one code. */
        private static long codeOf(String word) {
            long code = 0;
            for (int i = 0; i < word.length(); i++) {
                code = 32 * code + word.charAt(i) - 'a' + 1;
            }
            return code;
        }

        private boolean isWord(String word) {
            return kind == WORD && value == codeOf(word);
        }

        private void takeWord(String word) {
            if (isWord(word)) {
                step();
            } else {
                fail(FORM);
            }
        }

        private int takeWhole(int least, int most) {
            if (kind != WHOLE) {
                fail(FORM);
                return least;
            }
            int whole = (int) value;
            if (whole < least || whole > most) {
                fail(BOUNDS);
                return least;
            }
            step();
            return whole;
        }

        // -- NAMES

        /** Which of the reserved WORDS the TOKEN is, or NONE. */
        private int reservedNumber() {
            for (int i = 0; i < reserved.length && kind == WORD; i++) {
                if (reserved[i] == value) {
                    return i;
                }
            }
            return NONE;
        }

        private boolean isName() {
            return kind == WORD && reservedNumber() == NONE;
        }

        private int findName() {
            for (int i = 0; i < nameCount; i++) {
                if (names[i] == value) {
                    return i;
                }
            }
            return NONE;
        }

        private void takeNewName(int sort, int number) {
            if (!isName()) {
                fail(FORM);
            } else if (findName() != NONE) {
                fail(AGAIN);
            } else if (nameCount < MOST_NAMES) {
                names[nameCount] = value;
                nameSort[nameCount] = sort;
                nameNumber[nameCount] = number;
                nameCount++;
                step();
            }
        }

        /** Stays at the NAME, for what else may be wrong with it; answers 0 if it is no such. */
        private int nameHere(int sort) {
            int i = findName();
            if (!isName()) {
                fail(FORM);
            } else if (i == NONE || nameSort[i] != sort) {
                fail(UNTOLD);
            } else {
                return nameNumber[i];
            }
            return 0;
        }

        // -- LINES

        private void readLine() {
            int line = reservedNumber();
            if (line > BARRIER && line <= CRUMB && !barrierTold) {
                fail(LACKS);
                return;
            }
            switch (line) {
                case BARRIER:
                    readBarrier();
                    break;
                case MEANS:
                    readMeans();
                    break;
                case TRAVELLER:
                    readTraveller();
                    break;
                case GATE:
                    readGate();
                    break;
                case GOOD:
                    readGood();
                    break;
                case HIDES:
                    readHides();
                    break;
                case CROSSES:
                    readCrosses();
                    break;
                case PRICE:
                    readPrice();
                    break;
                case CRUMB:
                    readCrumb();
                    break;
                default:
                    fail(FORM);
            }
        }

        private boolean hasRoom(int count, int most) {
            if (count >= most) {
                fail(MANY);
                return false;
            }
            step();
            return true;
        }

        private void readBarrier() {
            if (barrierTold) {
                fail(AGAIN);
                return;
            }
            barrierTold = true;
            step();
            takeWord("fee");
            rows.fee = takeWhole(0, 9);
            takeWord("interest");
            rows.interest = takeWhole(0, 50);
        }

        private void readMeans() {
            int number = rows.meansCount;
            if (!hasRoom(number, MOST_MEANS)) {
                return;
            }
            Means row = rows.means[number];
            takeNewName(MEANS, number);
            takeWord("rate");
            row.rate = takeWhole(0, 9);
            takeWord("or");
            row.otherRate = takeWhole(0, 9);
            takeWord("keeps");
            row.keeps = takeWhole(1, 300);
            rows.meansCount++;
        }

        private void readTraveller() {
            int number = rows.travellerCount;
            if (!hasRoom(number, MOST_TRAVELLERS)) {
                return;
            }
            Traveller row = rows.travellers[number];
            takeNewName(TRAVELLER, number);
            takeWord("allow");
            row.allowed = takeWhole(0, 99);
            takeWord("hunger");
            row.hunger = takeWhole(0, 3);
            rows.travellerCount++;
        }

        private void readGate() {
            int number = rows.gateCount;
            if (!hasRoom(number, MOST_GATES)) {
                return;
            }
            Gate row = rows.gates[number];
            takeNewName(GATE, number);
            takeWord("nose");
            row.nose = takeWhole(1, 99);
            takeWord("opens");
            row.opens = takeWhole(0, 23);
            takeWord("shuts");
            row.shuts = takeWhole(row.opens, 23);
            rows.gateCount++;
        }

        private void readGood() {
            int number = rows.goodCount;
            if (!hasRoom(number, MOST_GOODS)) {
                return;
            }
            Good row = rows.goods[number];
            takeNewName(GOOD, number);
            row.kind = takeKind();
            row.owner = nameHere(TRAVELLER);
            step();
            row.means = NOTHING;
            row.keeps = FRESH_KEEPS;
            if (row.kind != FRESH) {
                takeWord("by");
                row.means = nameHere(MEANS);
                step();
                row.keeps = row.kind == OATH ? NOTHING : rows.means[row.means].keeps;
            }
            takeWord("age");
            row.age = takeWhole(0, 300);
            takeWord("weighs");
            row.weighs = takeWhole(1, 9);
            takeWord("worth");
            row.worth = takeWhole(0, 99);
            rows.travellers[row.owner].goods |= 1 << number;
            rows.goodCount++;
        }

        private int takeKind() {
            int is = FRESH;
            if (isWord("plain")) {
                is = PLAIN;
            } else if (isWord("wine")) {
                is = WINE;
            } else if (isWord("old")) {
                is = OLD;
            } else if (isWord("oath")) {
                is = OATH;
            } else if (!isWord("fresh")) {
                fail(FORM);
            }
            step();
            return is;
        }

        private void readHides() {
            step();
            int bit = 1 << nameHere(GOOD);
            if ((rows.hidden & bit) != 0) {
                fail(AGAIN);
            }
            rows.hidden |= bit;
            step();
        }

        private void readCrosses() {
            int number = rows.crossingCount;
            if (!hasRoom(number, MOST_CROSSINGS)) {
                return;
            }
            Crossing row = rows.crossings[number];
            row.traveller = nameHere(TRAVELLER);
            step();
            row.gate = nameHere(GATE);
            step();
            takeWord("day");
            row.day = takeWhole(number == 0 ? 0 : rows.crossings[number - 1].day, 60);
            takeWord("hour");
            row.hour = takeWhole(0, 23);
            rows.crossingCount++;
        }

        private void readPrice() {
            step();
            Means row = rows.means[nameHere(MEANS)];
            if (row.priced) {
                fail(AGAIN);
            }
            step();
            row.priced = true;
            takeWord("here");
            row.here = takeWhole(0, 99);
            takeWord("there");
            row.there = takeWhole(0, 99);
            rows.priceCount++;
        }

        private void readCrumb() {
            if (!hasRoom(rows.crumbs.count, MOST_CRUMBS)) {
                return;
            }
            int by = nameHere(MEANS);
            step();
            takeWord("day");
            rows.crumbs.put(by, takeWhole(0, 60));
        }
    }
}
