import java.math.BigInteger;

/** Promises 33 to 41 and their Terms: the plan, crumbs, sums, seasons, at the edges that each sentence names. */
public final class EdgesOfPlanTest {
    private static final String TERMS = "Terms III, sums";
    private static final Edges EDGES = Edges.ofPromises(33, 41, TERMS);
    private static final String HEAD = "barrier fee 1 interest 5"
            + ";means m rate 3 or 2 keeps 50;means n rate 1 or 9 keeps 300;means o rate 9 or 0 keeps 1"
            + ";traveller t allow 0 hunger 3;traveller u allow 0 hunger 1;traveller v allow 0 hunger 1"
            + ";traveller w allow 7 hunger 1"
            + ";gate g nose 10 opens 8 shuts 18;gate h nose 99 opens 0 shuts 0";

    public static void main(String[] args) {
        otherLaw();
        promise33();
        promise34();
        promise35();
        crumbs();
        nobodyTwice();
        couldAndSurely();
        owed();
        season();
        draws();
        seizedIn();
        EDGES.end();
    }

    private static SaltedGate told(String rest) {
        return Texts.told(HEAD + rest);
    }

    private static void otherLaw() {
        EDGES.says(TERMS, "THE OTHER LAW: other rates in place of rates.");
        SaltedGate x = told(";good a oath w by m age 10 weighs 1 worth 1;good b oath w by n age 10 weighs 1 worth 1;good c oath w by o age 90 weighs 9 worth 1;hides c");
        EDGES.due(x, 3 * 729, "asked", 3, 0, 0);
        EDGES.due(x, 2 + 9 - 7, "otherLaw", 3, 0, 0);
        EDGES.due(x, 4, "found", 3, 0, 0);
        EDGES.due(x, 2 * 6 + 9 * 6 - 7, "otherLaw", 3, 1, 50);
        EDGES.due(x, 3 * 6 + 6 - 7, "asked", 3, 1, 50);
    }

    private static final String GOODS = ";good a oath t by n age 10 weighs 9 worth 1;good b oath u by n age 10 weighs 8 worth 1"
            + ";good c oath t by n age 20 weighs 3 worth 1;good d oath v by n age 290 weighs 1 worth 1;hides a;hides b";

    private static void promise33() {
        EDGES.promise(33, "What is asked at a crossing of THE PLAN; -2 it can't be.");
        SaltedGate x = told(GOODS + ";crosses t g day 0 hour 7;crosses t g day 0 hour 8;crosses u g day 9 hour 18;crosses v g day 10 hour 19"
                + ";crosses v g day 10 hour 18;crosses w h day 60 hour 0");
        int[] asked = {-2, 3 * 9 + 6, 0, -2, 30, 0};
        for (int k = 0; k < 6; k++) {
            EDGES.due(x, asked[k], "planned", k);
        }
        // a day more, and b is found
        EDGES.due(told(GOODS + ";crosses u g day 10 hour 18"), 3 * 16, "planned", 0);
        EDGES.promise(33, "NONE: 1.");
        EDGES.bounds(Scenes::midst, 1, "planned", new int[] {0}, 0, 0, 2);
        EDGES.bounds(Scenes::fullest, 1, "planned", new int[] {0}, 0, 0, 5);
        EDGES.refused(Scenes::small, 1, "planned", 0);
        EDGES.refused(Scenes::without, 1, "planned", 0);
    }

    private static void promise34() {
        EDGES.promise(34, "The first that can't be; -2.");
        EDGES.due(told(GOODS), -2, "judge");
        EDGES.due(Scenes.small(), -2, "judge");
        String[] six = {"0 hour 8", "0 hour 9", "1 hour 10", "1 hour 11", "2 hour 12", "60 hour 18"};
        for (int shut = 0; shut <= 6; shut++) {
            StringBuilder text = new StringBuilder(GOODS);
            for (int k = 0; k < 6; k++) {
                text.append(";crosses t g day ").append(k < shut ? six[k] : six[k].replaceAll("hour.*", k % 2 == 0 ? "hour 7" : "hour 19"));
            }
            EDGES.due(told(text.toString()), shut == 6 ? -2 : shut, "judge");
        }
        EDGES.promise(34, "NONE: 1 (no BARRIER).");
        EDGES.refused(Scenes::without, 1, "judge");
    }

    private static void promise35() {
        EDGES.promise(35, "Goods that are over behind it (or, seized), as bits.");
        SaltedGate none = told(GOODS);
        EDGES.due(none, 0, "planOver", 0);
        EDGES.due(none, 0, "planOver", 1);
        SaltedGate all = told(GOODS + ";crosses t g day 0 hour 8;crosses u g day 9 hour 8;crosses v h day 9 hour 0");
        EDGES.due(all, 4 + 2 + 8, "planOver", 0);
        EDGES.due(all, 1, "planOver", 1);
        SaltedGate shut = told(GOODS + ";crosses t g day 0 hour 7;crosses u g day 10 hour 8;crosses v h day 10 hour 1");
        EDGES.due(shut, 0, "planOver", 0);
        EDGES.due(shut, 2, "planOver", 1);
        EDGES.due(Scenes.small(), 0, "planOver", 0);
        EDGES.due(Scenes.small(), 0, "planOver", 1);
        EDGES.promise(35, "NONE: 1 (no BARRIER).");
        EDGES.refused(Scenes::without, 1, "planOver", 0);
        EDGES.refused(Scenes::without, 1, "planOver", 1);
    }

    /** By m: t up to day 10, u up to day 50; by n: u and v always; by o: w, an oath; and t has fresh. */
    private static final String LEFT = ";good a plain t by m age 40 weighs 1 worth 1;good b plain u by m age 0 weighs 1 worth 1"
            + ";good c wine u by n age 0 weighs 1 worth 1;good d old v by n age 0 weighs 1 worth 1"
            + ";good e oath w by o age 300 weighs 1 worth 1;good f fresh t age 0 weighs 1 worth 1";

    private static SaltedGate left(String... crumbs) {
        return told(LEFT + (crumbs.length == 0 ? "" : ";crumb " + String.join(";crumb ", crumbs)));
    }

    private static void crumbs() {
        EDGES.says(TERMS, "CRUMBS: each was left by a traveller who has a good of those means, as told, not TURNED on that day;");
        EDGES.promise(36, "CRUMBS: how many rows.");
        EDGES.due(left("m day 10"), 2, "fits");
        EDGES.due(left("m day 11"), 1, "fits");
        EDGES.due(left("m day 50"), 1, "fits");
        EDGES.due(left("m day 51"), 0, "fits");
        EDGES.due(left("n day 0"), 2, "fits");
        EDGES.due(left("n day 60"), 2, "fits");
        EDGES.due(left("o day 60"), 1, "fits");
        EDGES.due(left("m day 1", "m day 2", "m day 3", "n day 4", "n day 5"), 32, "fits");
        EDGES.due(told(";crumb m day 0"), 0, "fits");
        EDGES.due(left("m day 10", "m day 11"), 2, "fits");
        EDGES.due(left("m day 11", "m day 10"), 2, "fits");
        EDGES.due(left("m day 51", "m day 50"), 0, "fits");
        EDGES.due(left("m day 9", "m day 10", "m day 50"), 4, "fits");
        SaltedGate acted = left("m day 10", "n day 10");
        acted.eat(0);
        acted.cross(1, 0);
        acted.days(60);
        EDGES.due(acted, 3, "fits");

        EDGES.promise(36, "NONE: 1 (no BARRIER); 6 (no crumb).");
        EDGES.refused(Scenes::without, 1, "fits");
        EDGES.refused(Scenes::small, 6, "fits");
        EDGES.refused(EdgesOfPlanTest::left, 6, "fits");
    }

    private static SaltedGate left() {
        return left(new String[0]);
    }

    private static void nobodyTwice() {
        EDGES.says(TERMS, "nobody left two on one day: all rows of travellers, crumb by crumb.");
        EDGES.due(left("m day 1", "m day 2"), 4, "fits");
        EDGES.due(left("m day 1", "m day 1"), 2, "fits");
        EDGES.due(left("m day 1", "n day 1"), 3, "fits");
        EDGES.due(left("m day 1", "n day 2"), 4, "fits");
        EDGES.due(left("m day 1", "m day 1", "m day 1"), 0, "fits");
        EDGES.due(left("m day 1", "n day 2", "m day 1"), 4, "fits");
        EDGES.due(left("o day 1", "o day 1"), 0, "fits");
        EDGES.due(left("o day 1", "o day 0"), 1, "fits");
        String[] names = {"t", "u", "v", "w"};
        StringBuilder all = new StringBuilder();
        for (String name : names) {
            all.append(";good x").append(name).append(" oath ").append(name).append(" by m age 0 weighs 1 worth 1");
        }
        // four travellers, each of whom may have left each crumb
        String four = all + ";crumb m day 1;crumb m day 1;crumb m day 1;crumb m day 1";
        EDGES.due(told(four), 24, "fits");
        EDGES.due(told(four + ";crumb m day 1"), 0, "fits");
        EDGES.due(told(four + ";crumb m day 2"), 96, "fits");
        EDGES.due(told(all + ";crumb m day 1;crumb m day 2;crumb m day 3;crumb m day 4;crumb m day 5"), 1024, "fits");
        EDGES.due(told(four + ";crumb m day 2"), 15, "could", 4);
    }

    private static void couldAndSurely() {
        EDGES.says(TERMS, "COULD of a crumb; SURELY.");
        SaltedGate[] cases = {left("m day 10"), left("m day 11"), left("m day 51"), left("m day 1", "n day 1", "n day 1"),
            left("m day 20", "n day 20"), left("m day 1", "m day 1", "m day 1", "n day 9", "o day 9"), left("n day 0", "m day 0", "m day 0")};
        int[][] could = {{3}, {2}, {0}, {1, 6, 6}, {2, 4}, {0, 0, 0, 0, 0}, {4, 3, 3}};
        int[][] surely = {{-2}, {1}, {-2}, {0, -2, -2}, {1, 2}, {-2, -2, -2, -2, -2}, {2, -2, -2}};
        for (int i = 0; i < cases.length; i++) {
            for (int c = 0; c < could[i].length; c++) {
                EDGES.promise(37, "COULD of a crumb, as bits.");
                EDGES.due(cases[i], could[i][c], "could", c);
                EDGES.promise(38, "SURELY; -2.");
                EDGES.due(cases[i], surely[i][c], "surely", c);
            }
        }
        EDGES.promise(38, "SURELY; -2.");
        EDGES.due(left("o day 60"), 3, "surely", 0);
        EDGES.due(left("n day 20", "m day 20"), 2, "surely", 0);
        for (String name : new String[] {"could", "surely"}) {
            EDGES.promise(name.equals("could") ? 37 : 38, "NONE: 1.");
            EDGES.bounds(Scenes::midst, 1, name, new int[] {0}, 0, 0, 1);
            EDGES.bounds(Scenes::fullest, 1, name, new int[] {0}, 0, 0, 4);
            EDGES.refused(Scenes::small, 1, name, 0);
            EDGES.refused(Scenes::without, 1, name, 0);
        }
    }

    private static void owed(int interest, int sum, int tens) {
        SaltedGate x = Texts.told(Texts.SMALL.replace("interest 10", "interest " + interest));
        BigInteger above = BigInteger.valueOf(100 + interest).pow(tens).multiply(BigInteger.valueOf(sum));
        BigInteger below = BigInteger.valueOf(100).pow(tens);
        BigInteger common = above.gcd(below);
        EDGES.due(x, above.divide(common).longValueExact(), "owed", sum, tens, 0);
        EDGES.due(x, below.divide(common).longValueExact(), "owed", sum, tens, 1);
    }

    private static void owed() {
        EDGES.says(TERMS, "OWED: a sum grows each ten days by interest in a hundred, exactly.");
        EDGES.promise(39, "OWED: of a sum (0 .. 999) behind so many tens of days (0 .. 5), the upper WHOLE or the lower, in lowest terms (0 by 1).");
        for (int interest : new int[] {0, 1, 7, 10, 25, 49, 50}) {
            for (int sum : new int[] {0, 1, 2, 3, 100, 500, 998, 999}) {
                for (int tens = 0; tens <= 5; tens++) {
                    owed(interest, sum, tens);
                }
            }
        }
        SaltedGate x = Texts.told(Texts.SMALL.replace("interest 10", "interest 50"));
        EDGES.due(x, 999L * 243, "owed", 999, 5, 0);
        EDGES.due(x, 32, "owed", 999, 5, 1);
        EDGES.due(x, 3, "owed", 2, 1, 0);
        EDGES.due(x, 1, "owed", 2, 1, 1);
        SaltedGate y = Texts.told(Texts.SMALL.replace("interest 10", "interest 49"));
        EDGES.due(y, 999L * 149 * 149 * 149 * 149 * 149, "owed", 999, 5, 0);
        EDGES.due(y, 10000000000L, "owed", 999, 5, 1);
        for (int tens = 0; tens <= 5; tens++) {
            EDGES.due(y, 0, "owed", 0, tens, 0);
            EDGES.due(y, 1, "owed", 0, tens, 1);
        }
        SaltedGate late = Texts.told(Texts.SMALL);
        late.days(60);
        EDGES.due(late, 11, "owed", 1, 1, 0);

        EDGES.promise(39, "-1: 1 (no BARRIER); 2.");
        for (int lower = 0; lower <= 1; lower++) {
            EDGES.bounds(Scenes::midst, 2, "owed", new int[] {0, 5, lower}, 0, 0, 999);
            EDGES.bounds(Scenes::midst, 2, "owed", new int[] {999, 0, lower}, 1, 0, 5);
            EDGES.refused(Scenes::without, 1, "owed", 0, 0, lower);
            EDGES.refused(Scenes::without, 1, "owed", 1000, 6, lower);
            EDGES.refused(Scenes::without, 1, "owed", -1, -1, lower);
        }
    }

    private static int next(int seed) {
        return (75 * seed + 74) % 65537;
    }

    /** Smells: a 68, b 24. */
    private static final String SMELLS = ";good a old u by n age 250 weighs 9 worth 1;good b plain u by n age 150 weighs 9 worth 1"
            + ";good c plain u by n age 10 weighs 5 worth 1;hides a;hides b";

    private static void season() {
        EDGES.says(TERMS, "A SEASON by a SEED: THE PLAN, but what is hidden is FOUND by a DRAW mod 100 below SMELL");
        EDGES.promise(40, "A SEASON by a SEED (0 .. 65,536): all that is asked.");
        SaltedGate x = told(SMELLS + ";crosses u h day 0 hour 0");
        int below = 0;
        int at = 0;
        for (int seed = 0; seed < 65537 && below + at < 60; seed++) {
            int first = next(seed) % 100;
            int second = next(next(seed)) % 100;
            boolean edge = first >= 67 && first <= 68 || second >= 23 && second <= 24;
            if (edge) {
                EDGES.due(x, 5 + (first < 68 ? 3 * 225 : 0) + (second < 24 ? 3 * 135 : 0), "season", seed);
                below += first == 67 || second == 23 ? 1 : 0;
                at += first == 68 || second == 24 ? 1 : 0;
            }
        }
        EDGES.is("both sides of the edge were met", below > 5 && at > 5);
        // 0 becomes 74, and 65,536 becomes 65,536 again: 75 times -1 and 74
        EDGES.due(x, 5, "season", 0);
        EDGES.due(x, 5 + 3 * 225, "season", 65536);
        EDGES.due(told(SMELLS), 0, "season", 0);
        EDGES.due(Scenes.small(), 0, "season", 65536);
        // on the day of the crossing: smells 78 and 29 on day 50, 6 tens of days of c
        SaltedGate later = told(SMELLS + ";crosses u h day 50 hour 0");
        for (int seed = 0; seed < 200; seed++) {
            int due = 30 + (next(seed) % 100 < 78 ? 3 * 270 : 0) + (next(next(seed)) % 100 < 29 ? 3 * 180 : 0);
            EDGES.due(later, due, "season", seed);
        }
        // a nose means nothing in it, but a gate that is shut does
        EDGES.due(told(SMELLS + ";crosses u g day 0 hour 9"), 5, "season", 0);
        EDGES.due(told(SMELLS + ";crosses u g day 0 hour 7"), 0, "season", 65536);
        EDGES.promise(40, "NONE: 1 (no BARRIER); 2.");
        EDGES.bounds(Scenes::midst, 2, "season", new int[] {0}, 0, 0, 65536);
        EDGES.bounds(Scenes::late, 2, "season", new int[] {0}, 0, 0, 65536);
        EDGES.refused(Scenes::without, 1, "season", 0);
        EDGES.refused(Scenes::without, 1, "season", -1);
        EDGES.refused(Scenes::without, 1, "season", 65537);
    }

    private static void draws() {
        EDGES.says(TERMS, "(good by good; SEED becomes (75 times SEED and 74) mod 65,537).");
        // two travellers and two goods each; what is over or seized, or where it is shut, isn't drawn for
        String goods = ";good a old t by n age 200 weighs 5 worth 1;good b old u by n age 200 weighs 5 worth 1;good c plain t by n age 300 weighs 9 worth 1"
                + ";good d plain u by n age 200 weighs 9 worth 1;good e oath u by n age 10 weighs 1 worth 1;hides a;hides b;hides c;hides d";
        SaltedGate x = told(goods + ";crosses u h day 0 hour 1;crosses t g day 0 hour 9;crosses t g day 0 hour 9;crosses u g day 0 hour 9");
        int[] duties = {100, 270, 100, 180};
        int[] smells = {50, 39, 50, 29};
        for (int seed = 0; seed < 200; seed++) {
            int drawn = seed;
            int due = 1;
            for (int i = 0; i < 4; i++) {
                drawn = next(drawn);
                due += drawn % 100 < smells[i] ? 3 * duties[i] : 0;
            }
            EDGES.due(x, due, "season", seed);
        }
        // SMELL 0 is never found, by no draw, but one is drawn for it
        SaltedGate none = told(";good a fresh t age 0 weighs 1 worth 1;good b fresh t age 0 weighs 2 worth 1;good c old t by n age 200 weighs 5 worth 1;hides b;hides c"
                + ";crosses t g day 0 hour 9");
        for (int seed = 0; seed < 200; seed++) {
            int second = next(next(seed)) % 100;
            EDGES.due(none, second < 46 ? 300 : 0, "season", seed);
        }
    }

    private static void seizedIn() {
        EDGES.promise(41, "In how many of n (1 .. 50), SEED going on, a good is seized.");
        SaltedGate x = told(SMELLS + ";crosses u h day 0 hour 0");
        for (int seed : new int[] {0, 1, 74, 5624, 65535, 65536}) {
            int drawn = seed;
            int first = 0;
            int second = 0;
            for (int n = 1; n <= 50; n++) {
                drawn = next(drawn);
                first += drawn % 100 < 68 ? 1 : 0;
                drawn = next(drawn);
                second += drawn % 100 < 24 ? 1 : 0;
                if (n <= 3 || n >= 49) {
                    EDGES.due(x, first, "seizedIn", 0, seed, n);
                    EDGES.due(x, second, "seizedIn", 1, seed, n);
                    EDGES.due(x, 0, "seizedIn", 2, seed, n);
                }
            }
        }
        EDGES.due(x, 50, "seizedIn", 0, 65536, 50);
        EDGES.due(told(SMELLS), 0, "seizedIn", 0, 65536, 50);
        SaltedGate acted = told(SMELLS + ";crosses u h day 0 hour 0");
        acted.eat(0);
        acted.days(60);
        EDGES.due(acted, 50, "seizedIn", 0, 65536, 50);
        EDGES.promise(41, "NONE: 1; 2.");
        EDGES.bounds(Scenes::midst, 1, "seizedIn", new int[] {0, 0, 1}, 0, 0, 4);
        EDGES.bounds(Scenes::fullest, 1, "seizedIn", new int[] {0, 65536, 50}, 0, 0, 7);
        EDGES.bounds(Scenes::midst, 2, "seizedIn", new int[] {0, 0, 1}, 1, 0, 65536);
        EDGES.bounds(Scenes::midst, 2, "seizedIn", new int[] {0, 0, 1}, 2, 1, 50);
        EDGES.bounds(Scenes::late, 2, "seizedIn", new int[] {7, 65536, 1}, 2, 1, 50);
        EDGES.refused(Scenes::midst, 1, "seizedIn", 5, 65537, 51);
        EDGES.refused(Scenes::midst, 1, "seizedIn", -1, -1, 0);
        EDGES.refused(Scenes::small, 1, "seizedIn", 0, 0, 1);
        EDGES.refused(Scenes::without, 1, "seizedIn", 0, -1, 0);
    }
}
