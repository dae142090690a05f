import java.math.BigInteger;
import java.util.ArrayList;
import java.util.List;
import java.util.function.IntUnaryOperator;

/** The document, word by word and without haste: what each call answers, for random runs. */
final class Model {
    private static final int HAD = 0;
    private static final int EATEN = 1;
    private static final int OVER = 2;
    private static final int SEIZED = 3;

    ModelText told;
    int trouble;
    int fault;
    int place;
    StringBuilder tape = new StringBuilder();
    private Now now = new Now(0);
    private List<Now> undos = new ArrayList<>();
    private List<Now> marks = new ArrayList<>();
    private int seed;

    private static final class Now {
        private int day;
        private final int[] fate;
        private final boolean[] hidden;
        private final int[] paid = new int[4];

        private Now(int goods) {
            fate = new int[goods];
            hidden = new boolean[goods];
        }

        private Now copy() {
            Now copy = new Now(fate.length);
            copy.day = day;
            System.arraycopy(fate, 0, copy.fate, 0, fate.length);
            System.arraycopy(hidden, 0, copy.hidden, 0, fate.length);
            System.arraycopy(paid, 0, copy.paid, 0, 4);
            return copy;
        }
    }

    private static final class Refusal extends RuntimeException {
        private static final long serialVersionUID = 1;
        private final int number;

        private Refusal(int number) {
            this.number = number;
        }
    }

    private static void need(boolean is, int number) {
        if (!is) {
            throw new Refusal(number);
        }
    }

    /** What a call answers by its name and numbers; booleans are 0 and 1. */
    long call(String name, int[] a) {
        switch (name) {
            case "feed":
                return feed(a);
            case "fault":
                return fault;
            case "where":
                return trouble == 4 ? place : -1;
            case "led":
                return led(a[0]);
            case "size":
                return size(a[0]);
            case "trouble":
                return trouble;
            default:
                break;
        }
        try {
            long answer = answer(name, a);
            trouble = 0;
            return answer;
        } catch (Refusal refusal) {
            trouble = refusal.number;
            boolean yes = List.of("eat", "hide", "undo", "back").contains(name);
            boolean gain = name.equals("gain") || name.equals("holdGain");
            return yes ? 0 : gain ? -10000 : -1;
        }
    }

    private long feed(int[] a) {
        if (tape.length() + 20 > 1100) {
            return -1;
        }
        for (int number : a) {
            for (int shift = 24; shift >= 0; shift -= 8) {
                tape.append((char) (number >>> shift & 255));
            }
        }
        return tape.length();
    }

    private long led(int i) {
        List<Integer> turned = new ArrayList<>();
        for (int g = 0; g < goods(); g++) {
            if (isTurned(g, now.day)) {
                turned.add(g);
            }
        }
        return i < 0 || i >= turned.size() ? -7 : turned.get(i);
    }

    private long size(int what) {
        if (what < 0 || what > 12) {
            return -1;
        }
        if (what == 12) {
            return tape.length();
        }
        if (told == null) {
            return 0;
        }
        String[] lines = {"means", "traveller", "gate", "good", "crosses", "price", "crumb"};
        if (what < 2) {
            return told.of("barrier").get(0)[what];
        }
        if (what < 9) {
            return told.of(lines[what - 2]).size();
        }
        return what == 9 ? now.day : what == 10 ? undos.size() : marks.size();
    }

    private long answer(String name, int[] a) {
        switch (name) {
            case "barrier":
                return barrier(a[0]);
            case "good":
                needGood(a[0]);
                need(a[1] >= 0 && a[1] <= 5, 1);
                return List.of(List.of("fresh", "plain", "wine", "old", "oath").indexOf(kind(a[0])), row(a[0])[1],
                        owner(a[0]), weighs(a[0]), now.fate[a[0]], now.hidden[a[0]] ? 1 : 0).get(a[1]);
            case "traveller":
                needRow("traveller", a[0]);
                need(a[1] >= 0 && a[1] <= 3, 1);
                return List.of(told.of("traveller").get(a[0])[0], hunger(a[0]), now.paid[a[0]], bits(now, a[0])).get(a[1]);
            case "gate":
                needRow("gate", a[0]);
                need(a[1] >= 0 && a[1] <= 2, 1);
                return told.of("gate").get(a[0])[a[1]];
            case "age":
                needGood(a[0]);
                return age(a[0], on(a[1]));
            case "worth":
                needGood(a[0]);
                return worth(a[0], on(a[1]));
            case "duty":
                needGood(a[0]);
                return duty(a[0], on(a[1]), false);
            case "smell":
                needGood(a[0]);
                return smell(now, a[0], on(a[1]), 0);
            case "turned":
                needGood(a[0]);
                return turned(a[0]);
            case "carries":
                needRow("traveller", a[0]);
                return carries(a[0], on(a[1]));
            case "dutyBy":
                needRow("means", a[0]);
                return dutyBy(a[0], on(a[1]));
            case "bestGate":
                needRow("traveller", a[0]);
                int then = on(a[1]);
                return firstLeast(told.of("gate").size(), k -> asked(now, a[0], k, then, false));
            default:
                return crossingAnswer(name, a);
        }
    }

    private long crossingAnswer(String name, int[] a) {
        if (!List.of("asked", "found", "otherLaw", "nearest", "eats", "eatsAsked", "hideBest", "hideAsked",
                "cover", "cheapestDay", "cheapest", "cross").contains(name)) {
            return otherAnswer(name, a);
        }
        int t = a[0];
        int gate = a[1];
        needRow("traveller", t);
        needRow("gate", gate);
        int day = a.length > 2 ? on(a[2]) : now.day;
        switch (name) {
            case "asked":
                return asked(now, t, gate, day, false);
            case "found":
                return found(now, t, gate, day);
            case "otherLaw":
                return asked(now, t, gate, day, true);
            case "nearest":
                return nearest(t, gate, day);
            case "eats":
                return meal(t, gate, day)[1];
            case "eatsAsked":
                return meal(t, gate, day)[0];
            case "hideBest":
                return hiding(t, gate, day)[1];
            case "hideAsked":
                return hiding(t, gate, day)[0];
            case "cover":
                return cover(t, gate, day);
            case "cheapestDay":
                return firstLeast(61, n -> asked(now, t, gate, day + n, false));
            case "cheapest":
                return asked(now, t, gate, day + firstLeast(61, n -> asked(now, t, gate, day + n, false)), false);
            default:
                need(bits(now, t) != 0, 5);
                keep();
                return cross(now, t, gate, now.day, false);
        }
    }

    private long otherAnswer(String name, int[] a) {
        switch (name) {
            case "hold":
                needGood(a[0]);
                return firstLeast(61, n -> -held(a[0], n));
            case "holdGain":
                needGood(a[0]);
                return held(a[0], firstLeast(61, n -> -held(a[0], n)));
            case "gain":
                needGood(a[0]);
                return gain(a[0], on(a[1]));
            case "bestGood":
                need(told != null, 1);
                return bestGood();
            case "search":
                need(told != null, 1);
                need(a[0] >= 0 && a[0] <= 4, 2);
                return search(a[0]);
            case "planned":
                needRow("crosses", a[0]);
                return plan(false, new Now(goods()))[a[0]];
            case "judge":
                need(told != null, 1);
                return judge();
            case "planOver":
                need(told != null, 1);
                return planOver(a[0] == 1);
            case "fits":
                need(told != null, 1);
                need(!told.of("crumb").isEmpty(), 6);
                return crumbRows().size();
            case "could":
                needRow("crumb", a[0]);
                return could(a[0]);
            case "surely":
                needRow("crumb", a[0]);
                return surely(a[0]);
            case "owed":
                need(told != null, 1);
                need(a[0] >= 0 && a[0] <= 999 && a[1] >= 0 && a[1] <= 5, 2);
                return owed(a[0], a[1], a[2] == 1);
            case "season":
                need(told != null, 1);
                need(a[0] >= 0 && a[0] <= 65536, 2);
                seed = a[0];
                return season(new Now(goods()));
            case "seizedIn":
                needGood(a[0]);
                need(a[1] >= 0 && a[1] <= 65536 && a[2] >= 1 && a[2] <= 50, 2);
                return seizedIn(a[0], a[1], a[2]);
            default:
                return act(name, a);
        }
    }

    private long act(String name, int[] a) {
        switch (name) {
            case "eat":
                needGood(a[0]);
                need(now.fate[a[0]] == HAD && hunger(owner(a[0])) > 0, 5);
                keep();
                now.fate[a[0]] = EATEN;
                return 1;
            case "hide":
                needGood(a[0]);
                need(now.fate[a[0]] == HAD && now.hidden[a[0]] != (a[1] == 1), 5);
                keep();
                now.hidden[a[0]] = a[1] == 1;
                return 1;
            case "days":
                need(told != null, 1);
                need(a[0] >= 1 && a[0] <= 60, 2);
                need(now.day + a[0] <= 300, 3);
                keep();
                now.day += a[0];
                return now.day;
            case "undo":
                need(!undos.isEmpty(), 6);
                now = undos.remove(undos.size() - 1);
                return 1;
            case "mark":
                need(told != null, 1);
                need(marks.size() < 3, 3);
                marks.add(now.copy());
                return marks.size() - 1;
            case "back":
                need(a[0] >= 0 && a[0] < marks.size(), 1);
                now = marks.get(a[0]).copy();
                undos.clear();
                return 1;
            default:
                throw new IllegalStateException(name);
        }
    }

    private long barrier(int n) {
        need(n >= 0 && n <= tape.length(), 2);
        ModelText text = new ModelText(tape.substring(0, n));
        tape.setLength(0);
        fault = text.fault;
        place = text.place;
        need(fault == 0, 4);
        told = text;
        now = asTold();
        undos.clear();
        marks.clear();
        return goods();
    }

    private Now asTold() {
        Now begun = new Now(goods());
        for (int[] row : told.of("hides")) {
            begun.hidden[row[0]] = true;
        }
        return begun;
    }

    private void keep() {
        undos.add(now.copy());
        if (undos.size() > 16) {
            undos.remove(0);
        }
    }

    private void needGood(int g) {
        need(g >= 0 && g < goods(), 1);
    }

    private void needRow(String line, int i) {
        need(told != null && i >= 0 && i < told.of(line).size(), 1);
    }

    private int on(int days) {
        need(days >= 0 && days <= 60, 2);
        return now.day + days;
    }

    private static int firstLeast(int many, IntUnaryOperator sum) {
        int best = 0;
        for (int i = 1; i < many; i++) {
            if (sum.applyAsInt(i) < sum.applyAsInt(best)) {
                best = i;
            }
        }
        return best;
    }

    // good rows: owner, means, age, weighs, worth

    private int goods() {
        return told == null ? 0 : told.of("good").size();
    }

    private int[] row(int g) {
        return told.of("good").get(g);
    }

    private int[] means(int g) {
        return told.of("means").get(row(g)[1]);
    }

    private String kind(int g) {
        return told.kinds.get(g);
    }

    private int owner(int g) {
        return row(g)[0];
    }

    private int weighs(int g) {
        return row(g)[3];
    }

    private int age(int g, int day) {
        return row(g)[2] + day;
    }

    private boolean isTurned(int g, int day) {
        if (kind(g).equals("oath")) {
            return false;
        }
        return age(g, day) > (kind(g).equals("fresh") ? 3 : means(g)[2]);
    }

    private int turned(int g) {
        for (int n = 0; n <= 301; n++) {
            if (isTurned(g, now.day + n)) {
                return n;
            }
        }
        return -2;
    }

    private int worth(int g, int day) {
        if (isTurned(g, day)) {
            return 0;
        }
        return row(g)[4] + (kind(g).equals("wine") ? age(g, day) / 10 : 0);
    }

    private int duty(int g, int day, boolean other) {
        if (kind(g).equals("fresh") || isTurned(g, day)) {
            return 0;
        }
        return weighs(g) * means(g)[other ? 1 : 0] * (age(g, day) / 10);
    }

    private int smell(Now at, int g, int day, int moreFresh) {
        int smell = weighs(g) + age(g, day) / 10;
        if (kind(g).equals("old")) {
            smell = smell + smell;
        }
        for (int f = 0; f < goods(); f++) {
            if (f != g && owner(f) == owner(g) && at.fate[f] == HAD && kind(f).equals("fresh") && !isTurned(f, day)) {
                smell -= 2;
            }
        }
        return Math.max(0, smell - 2 * moreFresh);
    }

    private boolean has(Now at, int t, int g) {
        return owner(g) == t && at.fate[g] == HAD;
    }

    private int bits(Now at, int t) {
        int bits = 0;
        for (int g = 0; g < goods(); g++) {
            bits += has(at, t, g) ? 1 << g : 0;
        }
        return bits;
    }

    private int hunger(int t) {
        int left = told.of("traveller").get(t)[1];
        for (int g = 0; g < goods(); g++) {
            left -= owner(g) == t && now.fate[g] == EATEN ? 1 : 0;
        }
        return left;
    }

    private int nose(int gate) {
        return told.of("gate").get(gate)[0];
    }

    private int found(Now at, int t, int gate, int day) {
        int bits = 0;
        for (int g = 0; g < goods(); g++) {
            if (has(at, t, g) && at.hidden[g] && smell(at, g, day, 0) >= nose(gate)) {
                bits += 1 << g;
            }
        }
        return bits;
    }

    private int asked(Now at, int t, int gate, int day, boolean other) {
        return askedBy(at, t, found(at, t, gate, day), day, other);
    }

    private int askedBy(Now at, int t, int found, int day, boolean other) {
        int shown = -told.of("traveller").get(t)[0];
        int fines = 0;
        for (int g = 0; g < goods(); g++) {
            if ((found & 1 << g) != 0) {
                fines += 3 * duty(g, day, other);
            } else if (has(at, t, g) && !at.hidden[g]) {
                shown += duty(g, day, other);
            }
        }
        return fines + Math.max(0, shown);
    }

    private int cross(Now at, int t, int gate, int day, boolean drawn) {
        int found = drawn ? drawnBits(at, t, day) : found(at, t, gate, day);
        int asked = askedBy(at, t, found, day, false);
        int had = bits(at, t);
        for (int g = 0; g < goods(); g++) {
            if ((had & 1 << g) != 0) {
                at.fate[g] = (found & 1 << g) != 0 ? SEIZED : OVER;
            }
        }
        at.paid[t] += asked;
        return asked;
    }

    private int drawnBits(Now at, int t, int day) {
        int bits = 0;
        for (int g = 0; g < goods(); g++) {
            if (has(at, t, g) && at.hidden[g]) {
                seed = (75 * seed + 74) % 65537;
                bits += seed % 100 < smell(at, g, day, 0) ? 1 << g : 0;
            }
        }
        return bits;
    }

    private int carries(int t, int day) {
        int sum = 0;
        for (int g = 0; g < goods(); g++) {
            sum += has(now, t, g) ? worth(g, day) : 0;
        }
        return sum;
    }

    private int dutyBy(int means, int day) {
        int sum = 0;
        for (int g = 0; g < goods(); g++) {
            sum += row(g)[1] == means && now.fate[g] == HAD ? duty(g, day, false) : 0;
        }
        return sum;
    }

    private int nearest(int t, int gate, int day) {
        for (int smell = nose(gate) - 1; smell >= 0; smell--) {
            for (int g = 0; g < goods(); g++) {
                if (has(now, t, g) && now.hidden[g] && smell(now, g, day, 0) == smell) {
                    return g;
                }
            }
        }
        return -2;
    }

    /** Of rows of {asked, bits} the best: least, then fewest, then least bits. */
    private static int[] better(int[] one, int[] other) {
        if (one == null || other[0] != one[0]) {
            return one == null || other[0] < one[0] ? other : one;
        }
        int more = Integer.bitCount(other[1]) - Integer.bitCount(one[1]);
        return more < 0 || more == 0 && other[1] < one[1] ? other : one;
    }

    private int[] meal(int t, int gate, int day) {
        int[] best = null;
        for (int bits = 255; bits >= 0; bits--) {
            if ((bits & ~bits(now, t)) == 0 && Integer.bitCount(bits) <= hunger(t)) {
                Now then = now.copy();
                for (int g = 0; g < goods(); g++) {
                    if ((bits & 1 << g) != 0) {
                        then.fate[g] = EATEN;
                    }
                }
                best = better(best, new int[] {asked(then, t, gate, day, false), bits});
            }
        }
        return best;
    }

    private int[] hiding(int t, int gate, int day) {
        int[] best = null;
        for (int bits = 255; bits >= 0; bits--) {
            if ((bits & ~bits(now, t)) == 0) {
                Now then = now.copy();
                for (int g = 0; g < goods(); g++) {
                    then.hidden[g] = (bits & 1 << g) != 0;
                }
                if (found(then, t, gate, day) == 0) {
                    best = better(best, new int[] {asked(then, t, gate, day, false), bits});
                }
            }
        }
        return best;
    }

    private int cover(int t, int gate, int day) {
        for (int more = 0; more <= 30; more++) {
            boolean found = false;
            for (int g = 0; g < goods(); g++) {
                found |= has(now, t, g) && now.hidden[g] && smell(now, g, day, more) >= nose(gate);
            }
            if (!found) {
                return more;
            }
        }
        return -2;
    }

    private int held(int g, int n) {
        return worth(g, now.day + n) - duty(g, now.day + n, false) - told.of("barrier").get(0)[0] * n;
    }

    private int gain(int g, int day) {
        int here = 0;
        int there = 0;
        for (int[] price : told.of("price")) {
            if (price[0] == row(g)[1]) {
                here = price[1];
                there = price[2];
            }
        }
        return isTurned(g, day) ? -(weighs(g) * here) : weighs(g) * (there - here) - duty(g, day, false);
    }

    private int bestGood() {
        int best = -2;
        for (int g = 0; g < goods(); g++) {
            for (int n = 0; n <= 60 && now.fate[g] == HAD; n++) {
                if (best == -2 || gain(g, now.day + n) > gain(best / 100, now.day + best % 100)) {
                    best = 100 * g + n;
                }
            }
        }
        return best;
    }

    private int search(int many) {
        int travellers = told.of("traveller").size();
        int best = -1;
        int most = -1;
        for (int bits = (1 << travellers) - 1; bits >= 0; bits--) {
            int sum = 0;
            for (int g = 0; g < goods(); g++) {
                boolean his = (bits & 1 << owner(g)) != 0;
                sum += his && now.fate[g] == HAD && now.hidden[g] ? worth(g, now.day) : 0;
            }
            if (Integer.bitCount(bits) == Math.min(many, travellers) && sum >= most) {
                most = sum;
                best = bits;
            }
        }
        return best;
    }

    private boolean isOpen(int[] crossing) {
        int[] gate = told.of("gate").get(crossing[1]);
        return crossing[3] >= gate[1] && crossing[3] <= gate[2];
    }

    private int[] plan(boolean drawn, Now at) {
        System.arraycopy(asTold().hidden, 0, at.hidden, 0, goods());
        int[] asked = new int[told.of("crosses").size()];
        for (int k = 0; k < asked.length; k++) {
            int[] crossing = told.of("crosses").get(k);
            asked[k] = isOpen(crossing) ? cross(at, crossing[0], crossing[1], crossing[2], drawn) : -2;
        }
        return asked;
    }

    private int judge() {
        for (int[] crossing : told.of("crosses")) {
            if (!isOpen(crossing)) {
                return told.of("crosses").indexOf(crossing);
            }
        }
        return -2;
    }

    private int planOver(boolean seized) {
        Now at = new Now(goods());
        plan(false, at);
        int bits = 0;
        for (int g = 0; g < goods(); g++) {
            bits += at.fate[g] == (seized ? SEIZED : OVER) ? 1 << g : 0;
        }
        return bits;
    }

    private int season(Now at) {
        int sum = 0;
        for (int asked : plan(true, at)) {
            sum += Math.max(0, asked);
        }
        return sum;
    }

    private int seizedIn(int g, int from, int n) {
        seed = from;
        int times = 0;
        for (int i = 0; i < n; i++) {
            Now at = new Now(goods());
            season(at);
            times += at.fate[g] == SEIZED ? 1 : 0;
        }
        return times;
    }

    private List<int[]> crumbRows() {
        List<int[]> all = new ArrayList<>();
        addCrumbRows(new int[told.of("crumb").size()], 0, all);
        return all;
    }

    private void addCrumbRows(int[] row, int c, List<int[]> all) {
        if (c == row.length) {
            all.add(row.clone());
            return;
        }
        int[] crumb = told.of("crumb").get(c);
        for (int t = 0; t < told.of("traveller").size(); t++) {
            boolean can = false;
            for (int g = 0; g < goods(); g++) {
                can |= owner(g) == t && row(g)[1] == crumb[0] && !isTurned(g, crumb[1]);
            }
            for (int b = 0; b < c; b++) {
                can &= row[b] != t || told.of("crumb").get(b)[1] != crumb[1];
            }
            if (can) {
                row[c] = t;
                addCrumbRows(row, c + 1, all);
            }
        }
    }

    private int could(int c) {
        int bits = 0;
        for (int[] row : crumbRows()) {
            bits |= 1 << row[c];
        }
        return bits;
    }

    private int surely(int c) {
        int only = -1;
        for (int[] row : crumbRows()) {
            only = only == -1 || only == row[c] ? row[c] : -2;
        }
        return only == -1 ? -2 : only;
    }

    private long owed(int sum, int tens, boolean lower) {
        BigInteger above = BigInteger.valueOf(100 + told.of("barrier").get(0)[1]).pow(tens).multiply(BigInteger.valueOf(sum));
        BigInteger below = BigInteger.valueOf(100).pow(tens);
        BigInteger common = above.gcd(below);
        return (lower ? below : above).divide(common).longValueExact();
    }
}
