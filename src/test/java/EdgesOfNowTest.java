import java.util.regex.Matcher;
import java.util.regex.Pattern;

/** What the interface says ahead of its calls: which of them go by what is NOW, and which by what was told. */
public final class EdgesOfNowTest {
    private static final Edges EDGES = new Edges("Heads");
    private static final int[] DAYS = {0, 1, 3, 9, 10, 31, 59, 60};
    private static final String TOLD = "barrier fee 1 interest 5"
            + ";means m rate 3 or 2 keeps 99;means n rate 1 or 9 keeps 300;means o rate 9 or 1 keeps 35"
            + ";traveller t allow 20 hunger 3;traveller u allow 0 hunger 2;traveller v allow 9 hunger 1"
            + ";gate g nose 10 opens 8 shuts 18;gate h nose 14 opens 0 shuts 0;gate k nose 40 opens 23 shuts 23"
            + ";good a wine t by m age 29 weighs 2 worth 20;good b plain t by n age 8 weighs 9 worth 30"
            + ";good c fresh t age 0 weighs 1 worth 9;good d old u by n age 60 weighs 3 worth 5"
            + ";good e oath u by o age 5 weighs 2 worth 7;good f plain u by o age 15 weighs 4 worth 50"
            + ";good i plain v by m age 44 weighs 5 worth 60;good j wine v by n age 1 weighs 9 worth 0"
            + ";hides b;hides d;hides i;price m here 9 there 70;price n here 3 there 1;price o here 60 there 99"
            + ";crosses t g day 3 hour 8;crosses u g day 9 hour 19;crosses v h day 60 hour 0"
            + ";crumb m day 55;crumb n day 9;crumb n day 9;crumb o day 20;crumb o day 30";
    private static final String[] OF_GOODS = {"age", "worth", "duty", "smell"};
    private static final String[] OF_CROSSINGS = {"asked", "found", "otherLaw", "nearest"};
    private static final String[] BEST_OF_CROSSINGS = {"eats", "eatsAsked", "hideBest", "hideAsked", "cover"};

    public static void main(String[] args) {
        theBarrier();
        now();
        behindSoManyDays();
        whatIsBest();
        thePlan();
        crumbsAndSums();
        seasons();
        acts();
        whatIsTold();
        EDGES.end();
    }

    private static SaltedGate onDay(String text, int day) {
        SaltedGate x = Texts.told(Texts.tight(text));
        for (int left = day; left > 0; left -= 60) {
            x.days(Math.min(left, 60));
        }
        return x;
    }

    /** The text with goods so many days older; none may be above 300 then. */
    private static String older(String text, int days) {
        Matcher age = Pattern.compile("age (\\d+)").matcher(text);
        StringBuilder so = new StringBuilder();
        while (age.find()) {
            age.appendReplacement(so, "age " + (Integer.parseInt(age.group(1)) + days));
        }
        return age.appendTail(so).toString();
    }

    /** Goods told as older, on day 0, are what goods become as days go by: all answers must be alike. */
    private static void likeOlder(String name, int[] rows, boolean behindDays) {
        for (int day : new int[] {1, 2, 10, 60, 61, 240}) {
            like(onDay(TOLD, day), onDay(older(TOLD, day), 0), "day " + day + ": ", name, rows, behindDays);
        }
        String young = TOLD.replaceAll("age \\d+", "age 0");
        for (int day : new int[] {299, 300}) {
            like(onDay(young, day), onDay(older(young, day), 0), "day " + day + ": ", name, rows, behindDays);
        }
    }

    private static void like(SaltedGate then, SaltedGate first, String when, String name, int[] rows, boolean behindDays) {
        int[] numbers = new int[rows.length + (behindDays ? 1 : 0)];
        int all = 1;
        for (int many : rows) {
            all *= many;
        }
        for (int at = 0; at < all; at++) {
            for (int i = 0, left = at; i < rows.length; i++) {
                numbers[i] = left % rows[i];
                left /= rows[i];
            }
            for (int days : behindDays ? DAYS : new int[] {0}) {
                if (behindDays) {
                    numbers[rows.length] = days;
                }
                long want = Calls.call(first, name, numbers);
                EDGES.same(when + Calls.tell(name, numbers), Calls.call(then, name, numbers), want);
            }
        }
    }

    private static void theBarrier() {
        EDGES.says("Heads", "Ahead of the calls `feed`, `barrier`, `fault`, `where` the interface says: ---- the barrier.");
        SaltedGate x = new SaltedGate();
        EDGES.due(x, 0, "fault");
        EDGES.due(x, -1, "where");
        EDGES.due(x, 20, "feed", 0x6f646420, 0x20202020, 0x20202020, 0x20202020, 0x20202020);
        EDGES.same("barrier(3) of 'odd'", x.barrier(3), -1);
        EDGES.due(x, 1, "fault");
        EDGES.due(x, 0, "where");
    }

    private static void now() {
        EDGES.says("Heads", "Ahead of the calls `good`, `traveller`, `gate` the interface says: ---- now.");
        SaltedGate x = onDay(TOLD, 0);
        x.eat(0);
        EDGES.due(x, 1, "good", 0, 4);
        EDGES.due(x, 2, "traveller", 0, 1);
        EDGES.due(x, 6, "traveller", 0, 3);
        x.hide(1, false);
        EDGES.due(x, 0, "good", 1, 5);
        // b is 40 days old then: a DUTY of 9 * 4, of which 20 are allowed
        x.days(32);
        x.cross(0, 0);
        EDGES.due(x, 2, "good", 1, 4);
        EDGES.due(x, 9 * 4 - 20, "traveller", 0, 2);
        EDGES.due(x, 0, "traveller", 0, 3);
        EDGES.due(x, 10, "gate", 0, 0);
        x.undo();
        EDGES.due(x, 0, "good", 1, 4);
        EDGES.due(x, 0, "traveller", 0, 2);
        EDGES.due(x, 6, "traveller", 0, 3);
        like(onDay(TOLD, 60), onDay(TOLD, 0), "day 60: ", "good", new int[] {8, 6}, false);
        like(onDay(TOLD, 60), onDay(TOLD, 0), "day 60: ", "traveller", new int[] {3, 4}, false);
        like(onDay(TOLD, 60), onDay(TOLD, 0), "day 60: ", "gate", new int[] {3, 3}, false);
    }

    private static void behindSoManyDays() {
        EDGES.says("Heads", "Ahead of the calls `age`, `worth`, `duty`, `smell`, `turned`, `asked`, `found`, `otherLaw`, `carries`, `dutyBy`, `nearest`, `bestGate`"
                + " the interface says: ---- behind so many days more (0 .. 60).");
        for (String name : OF_GOODS) {
            likeOlder(name, new int[] {8}, true);
        }
        likeOlder("turned", new int[] {8}, false);
        for (String name : OF_CROSSINGS) {
            likeOlder(name, new int[] {3, 3}, true);
        }
        likeOlder("carries", new int[] {3}, true);
        likeOlder("dutyBy", new int[] {3}, true);
        likeOlder("bestGate", new int[] {3}, true);
    }

    private static void whatIsBest() {
        EDGES.says("Heads", "Ahead of the calls `cheapestDay`, `cheapest`, `eats`, `eatsAsked`, `hideBest`, `hideAsked`, `cover`, `hold`, `holdGain`, `gain`, `bestGood`, `search`"
                + " the interface says: ---- what is best.");
        likeOlder("cheapestDay", new int[] {3, 3}, false);
        likeOlder("cheapest", new int[] {3, 3}, false);
        for (String name : BEST_OF_CROSSINGS) {
            likeOlder(name, new int[] {3, 3}, true);
        }
        likeOlder("hold", new int[] {8}, false);
        likeOlder("holdGain", new int[] {8}, false);
        likeOlder("gain", new int[] {8}, true);
        likeOlder("bestGood", new int[0], false);
        likeOlder("search", new int[] {5}, false);
    }

    /** Behind ACTS that change all that is NOW. */
    private static SaltedGate acted() {
        SaltedGate x = onDay(TOLD, 60);
        x.eat(0);
        x.eat(2);
        x.hide(1, false);
        x.hide(5, true);
        x.hide(6, false);
        x.cross(1, 0);
        x.days(60);
        x.cross(2, 2);
        return x;
    }

    private static void thePlan() {
        EDGES.says("Heads", "Ahead of the calls `planned`, `judge`, `planOver` the interface says: ---- the plan.");
        SaltedGate x = acted();
        // on day 3 a has a DUTY of 18, b smells 10 less 2; on day 60 i has turned and smells 15, j has a DUTY of 54
        int[] asked = {0, -2, 54 - 9};
        for (int k = 0; k < 3; k++) {
            EDGES.due(x, asked[k], "planned", k);
        }
        EDGES.due(x, 1, "judge");
        EDGES.due(x, 1 + 2 + 4 + 128, "planOver", 0);
        EDGES.due(x, 64, "planOver", 1);
    }

    private static void crumbsAndSums() {
        EDGES.says("Heads", "Ahead of the calls `fits`, `could`, `surely`, `owed` the interface says: ---- crumbs, sums.");
        SaltedGate x = acted();
        // m: t and v on day 55; n: t, u, v on day 9, two of them; o: u on days 20 and 30
        EDGES.due(x, 2 * 6, "fits");
        int[] could = {5, 7, 7, 2, 2};
        int[] surely = {-2, -2, -2, 1, 1};
        for (int c = 0; c < 5; c++) {
            EDGES.due(x, could[c], "could", c);
            EDGES.due(x, surely[c], "surely", c);
        }
        EDGES.due(x, 21, "owed", 1, 1, 0);
        EDGES.due(x, 20, "owed", 1, 1, 1);
    }

    private static void seasons() {
        EDGES.says("Heads", "Ahead of the calls `season`, `seizedIn` the interface says: ---- seasons.");
        SaltedGate x = acted();
        SaltedGate y = onDay(TOLD, 0);
        for (int seed = 0; seed < 20; seed++) {
            EDGES.due(x, y.season(seed), "season", seed);
            EDGES.due(x, y.seizedIn(1, seed, 50), "seizedIn", 1, seed, 50);
        }
        EDGES.is("b is seized at times", y.seizedIn(1, 0, 50) > 0);
    }

    private static void acts() {
        EDGES.says("Heads", "Ahead of the calls `eat`, `hide`, `cross`, `days`, `undo`, `mark`, `back` the interface says: ---- acts.");
        SaltedGate x = acted();
        EDGES.due(x, 9, "size", 10);
        EDGES.due(x, 0, "mark");
        EDGES.due(x, 9, "size", 10);
        EDGES.due(x, 1, "undo");
        EDGES.due(x, 8, "size", 10);
        EDGES.due(x, 1, "back", 0);
        EDGES.due(x, 0, "size", 10);
        // an ACT goes by NOW: what is asked on the day, of what he has
        for (int day : new int[] {1, 3, 4, 60, 240}) {
            for (int t = 0; t < 3; t++) {
                SaltedGate then = onDay(TOLD, day);
                SaltedGate first = onDay(older(TOLD, day), 0);
                EDGES.due(then, first.asked(t, 0, 0), "cross", t, 0);
                first.cross(t, 0);
                like(then, first, "crossed on day " + day + ": ", "good", new int[] {8, 6}, false);
            }
        }
    }

    private static void whatIsTold() {
        EDGES.says("Heads", "Ahead of the calls `led`, `size`, `trouble` the interface says: ---- what is told.");
        likeOlder("led", new int[] {9}, false);
        SaltedGate x = acted();
        EDGES.due(x, 120, "size", 9);
        EDGES.due(x, 0, "trouble");
    }
}
