import java.nio.charset.StandardCharsets;
import java.util.Arrays;
import java.util.NoSuchElementException;
import java.util.Random;

/** All promises: runs of calls by chance, each answer against that of the model. */
public final class RandomRunsTest {
    private static final int RUNS = 1500;
    private static final int CALLS = 400;
    /** Each call with what its numbers are: g t k m c x good .. crossing, d days, s seed, b yes or no, n any. */
    private static final String[] CALLED = {
        "good gw", "traveller tw", "gate kw", "age gd", "worth gd", "duty gd", "smell gd", "turned g", "asked tkd",
        "found tkd", "otherLaw tkd", "carries td", "dutyBy md", "nearest tkd", "bestGate td", "cheapestDay tk",
        "cheapest tk", "eats tkd", "eatsAsked tkd", "hideBest tkd", "hideAsked tkd", "cover tkd", "hold g",
        "holdGain g", "gain gd", "bestGood", "search w", "planned x", "judge", "planOver b", "fits", "could c",
        "surely c", "owed owb", "season s", "seizedIn gsy", "eat g", "hide gb", "cross tk", "days d", "undo", "mark",
        "back k", "led g", "size z", "trouble", "fault", "where",
    };
    private static final Check CHECK = new Check();

    private final Random random;
    private final TextMaker maker;
    private final SaltedGate x = new SaltedGate();
    private final Model model = new Model();
    private int calls;

    private RandomRunsTest(long seed) {
        random = new Random(seed);
        maker = new TextMaker(random);
    }

    public static void main(String[] args) {
        for (int run = 0; run < RUNS && !CHECK.isWrong(); run++) {
            new RandomRunsTest(run).run(run);
        }
        CHECK.end();
    }

    private void run(int run) {
        while (calls < CALLS) {
            if (calls == 0 ? random.nextInt(10) != 0 : random.nextInt(90) == 0) {
                String text = maker.text();
                tell(run, random.nextInt(3) == 0 ? maker.spoiled(text) : text);
            }
            String called = CALLED[random.nextInt(CALLED.length)];
            String kinds = called.contains(" ") ? called.substring(called.indexOf(' ') + 1) : "";
            int[] a = new int[kinds.length()];
            for (int i = 0; i < a.length; i++) {
                a[i] = number(kinds.charAt(i));
            }
            compare(run, called.split(" ")[0], a);
        }
    }

    private int number(char kind) {
        if (kind == 'b') {
            return random.nextInt(2);
        }
        int[] odd = {-1, -2, 61, 1000, 65537, 31, 32, 33, Integer.MAX_VALUE, Integer.MIN_VALUE};
        if (random.nextInt(25) == 0) {
            return odd[random.nextInt(odd.length)];
        }
        switch (kind) {
            case 'g':
                return random.nextInt(9);
            case 't':
            case 'm':
                return random.nextInt(5);
            case 'k':
                return random.nextInt(4);
            case 'c':
            case 'w':
                return random.nextInt(7);
            case 'x':
                return random.nextInt(7);
            case 'd':
                return random.nextInt(3) == 0 ? random.nextInt(62) : random.nextInt(12);
            case 's':
                return random.nextInt(65537);
            case 'y':
                return random.nextInt(53);
            case 'o':
                return random.nextInt(1001);
            default:
                return random.nextInt(14);
        }
    }

    private void tell(int run, String text) {
        byte[] bytes = Arrays.copyOf(text.getBytes(StandardCharsets.ISO_8859_1), (text.length() + 19) / 20 * 20);
        for (int at = 0; at < bytes.length; at += 20) {
            int[] a = new int[5];
            for (int i = 0; i < 20; i++) {
                a[i / 4] = a[i / 4] << 8 | bytes[at + i] & 255;
            }
            compare(run, "feed", a);
        }
        if (random.nextInt(20) == 0) {
            compare(run, "barrier", new int[] {random.nextInt(1200) - 20});
        }
        compare(run, "barrier", new int[] {text.length()});
        compare(run, "fault", new int[0]);
        compare(run, "where", new int[0]);
    }

    private void compare(int run, String name, int[] a) {
        calls++;
        String call = "run " + run + ", " + name + Arrays.toString(a);
        CHECK.due(call, real(name, a), model.call(name, a));
        CHECK.due("trouble() behind " + call, x.trouble(), model.trouble);
    }

    private long real(String name, int[] a) {
        switch (name) {
            case "feed": return x.feed(a[0], a[1], a[2], a[3], a[4]);
            case "barrier": return x.barrier(a[0]);
            case "fault": return x.fault();
            case "where": return x.where();
            case "good": return x.good(a[0], a[1]);
            case "traveller": return x.traveller(a[0], a[1]);
            case "gate": return x.gate(a[0], a[1]);
            case "age": return x.age(a[0], a[1]);
            case "worth": return x.worth(a[0], a[1]);
            case "duty": return x.duty(a[0], a[1]);
            case "smell": return x.smell(a[0], a[1]);
            case "turned": return x.turned(a[0]);
            case "asked": return x.asked(a[0], a[1], a[2]);
            case "found": return x.found(a[0], a[1], a[2]);
            case "otherLaw": return x.otherLaw(a[0], a[1], a[2]);
            case "carries": return x.carries(a[0], a[1]);
            case "dutyBy": return x.dutyBy(a[0], a[1]);
            case "nearest": return x.nearest(a[0], a[1], a[2]);
            case "bestGate": return x.bestGate(a[0], a[1]);
            case "cheapestDay": return x.cheapestDay(a[0], a[1]);
            case "cheapest": return x.cheapest(a[0], a[1]);
            case "eats": return x.eats(a[0], a[1], a[2]);
            case "eatsAsked": return x.eatsAsked(a[0], a[1], a[2]);
            case "hideBest": return x.hideBest(a[0], a[1], a[2]);
            case "hideAsked": return x.hideAsked(a[0], a[1], a[2]);
            case "cover": return x.cover(a[0], a[1], a[2]);
            default: return realRest(name, a);
        }
    }

    private long realRest(String name, int[] a) {
        switch (name) {
            case "hold": return x.hold(a[0]);
            case "holdGain": return x.holdGain(a[0]);
            case "gain": return x.gain(a[0], a[1]);
            case "bestGood": return x.bestGood();
            case "search": return x.search(a[0]);
            case "planned": return x.planned(a[0]);
            case "judge": return x.judge();
            case "planOver": return x.planOver(a[0] == 1);
            case "fits": return x.fits();
            case "could": return x.could(a[0]);
            case "surely": return x.surely(a[0]);
            case "owed": return x.owed(a[0], a[1], a[2] == 1);
            case "season": return x.season(a[0]);
            case "seizedIn": return x.seizedIn(a[0], a[1], a[2]);
            case "eat": return x.eat(a[0]) ? 1 : 0;
            case "hide": return x.hide(a[0], a[1] == 1) ? 1 : 0;
            case "cross": return x.cross(a[0], a[1]);
            case "days": return x.days(a[0]);
            case "undo": return x.undo() ? 1 : 0;
            case "mark": return x.mark();
            case "back": return x.back(a[0]) ? 1 : 0;
            case "led": return ledOr(a[0]);
            case "size": return x.size(a[0]);
            case "trouble": return x.trouble();
            default: throw new IllegalStateException(name);
        }
    }

    private long ledOr(int i) {
        try {
            return x.led(i);
        } catch (NoSuchElementException e) {
            return -7;
        }
    }
}
