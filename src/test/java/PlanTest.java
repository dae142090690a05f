/** Promises 33 to 35, 40 and 41: the plan, seasons. */
public final class PlanTest {
    private static final Check CHECK = new Check();
    private static final String HEAD = "barrier fee 1 interest 5;means m rate 3 or 2 keeps 50"
            + ";means n rate 1 or 9 keeps 300"
            + ";traveller t allow 20 hunger 3;traveller u allow 0 hunger 2"
            + ";gate g nose 10 opens 8 shuts 18;gate h nose 30 opens 5 shuts 5";
    private static final String GOODS = ";good a plain t by m age 40 weighs 2 worth 1"
            + ";good b plain t by n age 30 weighs 7 worth 1;good c plain u by n age 10 weighs 5 worth 1"
            + ";good d old u by n age 90 weighs 6 worth 1;good e fresh u age 0 weighs 1 worth 1;hides b;hides d";

    public static void main(String[] args) {
        planned();
        hours();
        actsMeanNothing();
        wrong();
        seasonsByHand();
        shutGatesDrawNothing();
        seizedIn();
        CHECK.end();
    }

    private static void planned() {
        SaltedGate x = Texts.told(HEAD + GOODS + ";crosses t g day 5 hour 8;crosses u h day 5 hour 4"
                + ";crosses u h day 6 hour 5;crosses t g day 7 hour 9;crosses u g day 60 hour 12");
        CHECK.due("b smells 10: found", x.planned(0), 3 * 21 + 24 - 20);
        CHECK.due("shut", x.planned(1), -2);
        CHECK.due("d smells 30, but for nothing fresh on day 6", x.planned(2), 3 * 54 + 5);
        CHECK.due("t HAS nothing more", x.planned(3), 0);
        CHECK.due("u HAS nothing more", x.planned(4), 0);
        CHECK.due("judge()", x.judge(), 1);
        CHECK.due("over", x.planOver(false), 1 + 4 + 16);
        CHECK.due("seized", x.planOver(true), 2 + 8);
        SaltedGate y = Texts.told(HEAD + GOODS + ";crosses u h day 3 hour 5");
        CHECK.due("covered on day 3", y.planned(0), 5);
        CHECK.due("judge()", y.judge(), -2);
        CHECK.due("trouble()", y.trouble(), 0);
        CHECK.due("over", y.planOver(false), 28);
        CHECK.due("seized", y.planOver(true), 0);
    }

    private static void hours() {
        for (int hour = 0; hour < 24; hour++) {
            SaltedGate x = Texts.told(HEAD + GOODS + ";crosses t g day 0 hour " + hour);
            boolean open = hour >= 8 && hour <= 18;
            CHECK.due("judge() at " + hour, x.judge(), open ? -2 : 0);
            CHECK.due("planned(0) at " + hour, x.planned(0), open ? 3 * 21 + 24 - 20 : -2);
            CHECK.due("planOver(false) at " + hour, x.planOver(false), open ? 1 : 0);
            CHECK.due("planOver(true) at " + hour, x.planOver(true), open ? 2 : 0);
        }
    }

    private static void actsMeanNothing() {
        SaltedGate x = Texts.told(HEAD + GOODS + ";crosses t g day 5 hour 8;crosses u g day 5 hour 9");
        int first = x.planned(0);
        int second = x.planned(1);
        int season = x.season(7);
        x.eat(0);
        x.hide(1, false);
        x.days(60);
        x.cross(1, 0);
        CHECK.due("planned(0)", x.planned(0), first);
        CHECK.due("planned(1)", x.planned(1), second);
        CHECK.due("planOver(true)", x.planOver(true), 10);
        CHECK.due("season(7)", x.season(7), season);
        CHECK.due("and the plan is no act", x.traveller(0, 3), 2);
        CHECK.due("it pays nothing", x.traveller(0, 2), 0);
    }

    private static void wrong() {
        SaltedGate x = Texts.told(HEAD + GOODS + ";crosses t g day 5 hour 8");
        for (int n : new int[] {-1, 1, 6, Integer.MAX_VALUE, Integer.MIN_VALUE}) {
            CHECK.refused(x, "planned(" + n + ")", x.planned(n), -1, 1);
        }
        CHECK.refused(x, "season(-1)", x.season(-1), -1, 2);
        CHECK.refused(x, "season(65537)", x.season(65537), -1, 2);
        CHECK.due("season(65536)", x.season(65536) >= 0, true);
        CHECK.refused(x, "seizedIn(5, 0, 1)", x.seizedIn(5, 0, 1), -1, 1);
        CHECK.refused(x, "seizedIn(-1, -1, 0)", x.seizedIn(-1, -1, 0), -1, 1);
        CHECK.refused(x, "seizedIn(0, -1, 1)", x.seizedIn(0, -1, 1), -1, 2);
        CHECK.refused(x, "seizedIn(0, 65537, 1)", x.seizedIn(0, 65537, 1), -1, 2);
        CHECK.refused(x, "seizedIn(0, 0, 0)", x.seizedIn(0, 0, 0), -1, 2);
        CHECK.refused(x, "seizedIn(0, 0, 51)", x.seizedIn(0, 0, 51), -1, 2);
        SaltedGate none = new SaltedGate();
        CHECK.refused(none, "planned(0)", none.planned(0), -1, 1);
        CHECK.refused(none, "judge()", none.judge(), -1, 1);
        CHECK.refused(none, "planOver(true)", none.planOver(true), -1, 1);
        CHECK.refused(none, "planOver(false)", none.planOver(false), -1, 1);
        CHECK.refused(none, "season(-1)", none.season(-1), -1, 1);
        CHECK.refused(none, "seizedIn(0, 0, 1)", none.seizedIn(0, 0, 1), -1, 1);
    }

    /** The DRAW is what SEED has become: behind SEED 0 come 74, 5624, 28632, 50170, 27135. */
    private static void seasonsByHand() {
        SaltedGate x = Texts.told(HEAD + ";good a old u by n age 250 weighs 9 worth 1"
                + ";good b plain u by n age 150 weighs 9 worth 1;hides a;hides b;crosses u g day 0 hour 9");
        CHECK.due("smells", 100 * x.smell(0, 0) + x.smell(1, 0), 6824);
        CHECK.due("74 isn't below 68, 24 isn't below 24", x.season(0), 0);
        CHECK.due("by SEED 5624: 32 below 68, 70 not below 24", x.season(5624), 3 * 225);
        CHECK.due("by SEED 74: 24 below 68, 32 not below 24", x.season(74), 3 * 225);
        CHECK.due("seizedIn: a by the 2nd season", x.seizedIn(0, 0, 1), 0);
        CHECK.due("seizedIn: SEED goes on", x.seizedIn(0, 0, 2), 1);
        CHECK.due("seizedIn: b", x.seizedIn(1, 0, 2), 0);
    }

    private static void shutGatesDrawNothing() {
        String goods = ";good a old u by n age 250 weighs 9 worth 1;good b old t by n age 250 weighs 9 worth 1"
                + ";hides a;hides b";
        SaltedGate x = Texts.told(HEAD + goods + ";crosses u g day 0 hour 0;crosses t g day 0 hour 9");
        SaltedGate y = Texts.told(HEAD + goods + ";crosses t g day 0 hour 9");
        for (int seed = 0; seed < 200; seed++) {
            CHECK.due("season(" + seed + ")", x.season(seed), y.season(seed));
        }
        SaltedGate z = Texts.told(HEAD + goods + ";crosses t g day 0 hour 9;crosses t g day 0 hour 9;crosses u g day 0 hour 9");
        CHECK.due("what is over isn't drawn for again: 74, 24 below 68", z.season(0), 3 * 225);
    }

    private static void seizedIn() {
        SaltedGate x = Texts.told(HEAD + ";good a old u by n age 250 weighs 9 worth 1"
                + ";good b plain u by n age 150 weighs 9 worth 1;good c plain u by n age 0 weighs 1 worth 1"
                + ";hides a;hides b;crosses u g day 0 hour 9");
        for (int seed = 0; seed < 40; seed++) {
            int drawn = seed;
            int first = 0;
            int second = 0;
            for (int n = 1; n <= 50; n++) {
                drawn = (75 * drawn + 74) % 65537;
                first += drawn % 100 < 68 ? 1 : 0;
                drawn = (75 * drawn + 74) % 65537;
                second += drawn % 100 < 24 ? 1 : 0;
                if (n % 13 == 0 || n == 50) {
                    CHECK.due("seizedIn(0, " + seed + ", " + n + ")", x.seizedIn(0, seed, n), first);
                    CHECK.due("seizedIn(1, " + seed + ", " + n + ")", x.seizedIn(1, seed, n), second);
                }
            }
        }
        CHECK.due("shown goods are never seized", x.seizedIn(2, 5, 50), 0);
    }
}
