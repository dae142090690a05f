/** Promises 21 to 32 and their Terms: what is best, at the edges that each sentence names. */
public final class EdgesOfBestTest {
    private static final String TERMS = "Terms III, what is best";
    private static final Edges EDGES = Edges.ofPromises(21, 32, TERMS);
    private static final String HEAD = "barrier fee 1 interest 5"
            + ";means m rate 3 or 2 keeps 50;means n rate 1 or 9 keeps 300;means o rate 0 or 0 keeps 10"
            + ";traveller t allow 20 hunger 3;traveller u allow 0 hunger 2;traveller v allow 0 hunger 0"
            + ";gate g nose 10 opens 8 shuts 18;gate h nose 30 opens 0 shuts 0";

    public static void main(String[] args) {
        cheapestDay();
        eating();
        eatingLikeOnes();
        hiding();
        hidingLikeOnes();
        covering();
        holding();
        gains();
        bestGood();
        searching();
        searchingLikeOnes();
        EDGES.end();
    }

    private static SaltedGate told(String goods) {
        return Texts.told(HEAD + goods);
    }

    private static void refusalsOfCrossing(String name) {
        EDGES.bounds(Scenes::midst, 1, name, new int[] {0, 0, 0}, 0, 0, 1);
        EDGES.bounds(Scenes::fullest, 1, name, new int[] {0, 2, 60}, 0, 0, 3);
        EDGES.bounds(Scenes::midst, 1, name, new int[] {0, 0, 0}, 1, 0, 1);
        EDGES.bounds(Scenes::fullest, 1, name, new int[] {3, 0, 60}, 1, 0, 2);
        EDGES.bounds(Scenes::midst, 2, name, new int[] {0, 0, 0}, 2, 0, 60);
        EDGES.bounds(Scenes::late, 2, name, new int[] {3, 2, 0}, 2, 0, 60);
        EDGES.refused(Scenes::midst, 1, name, 2, 0, 61);
        EDGES.refused(Scenes::midst, 1, name, 0, 2, -1);
        EDGES.refused(Scenes::without, 1, name, 0, 0, 61);
    }

    private static void cheapest(SaltedGate x, int t, int gate, int day, int asked) {
        EDGES.promise(21, "CHEAPEST DAY.");
        EDGES.due(x, day, "cheapestDay", t, gate);
        EDGES.promise(22, "What is asked on it.");
        EDGES.due(x, asked, "cheapest", t, gate);
    }

    private static void cheapestDay() {
        EDGES.says(TERMS, "III. From NOW. CHEAPEST DAY of a traveller by a gate: behind 0 .. 60 days more that by which is asked least, the first such.");
        SaltedGate turns = told(";good a plain u by n age 241 weighs 1 worth 1");
        cheapest(turns, 1, 0, 60, 0);
        SaltedGate later = told(";good a plain u by n age 240 weighs 1 worth 1");
        cheapest(later, 1, 0, 0, 24);
        later.days(1);
        cheapest(later, 1, 0, 60, 0);
        later.days(60);
        cheapest(later, 1, 0, 0, 0);
        SaltedGate falls = told(";good a plain u by m age 20 weighs 2 worth 1;good b plain u by n age 20 weighs 3 worth 1");
        cheapest(falls, 1, 0, 31, 15);
        falls.days(30);
        cheapest(falls, 1, 0, 1, 15);
        SaltedGate alike = told(";good a oath u by o age 20 weighs 2 worth 1");
        cheapest(alike, 1, 0, 0, 0);
        cheapest(alike, 2, 1, 0, 0);
        SaltedGate gates = told(";good a plain u by n age 190 weighs 1 worth 1;good b fresh u age 0 weighs 1 worth 1;good c old u by n age 40 weighs 2 worth 1;hides c");
        EDGES.same("c smells 12, 10 covered: found by g", gates.found(1, 0, 0), 4);
        cheapest(gates, 1, 0, 0, 3 * 8 + 19);
        cheapest(gates, 1, 1, 0, 19);
        cheapest(Scenes.small(), 0, 0, 0, 0);
        // found by g up to its turning, never by h
        SaltedGate hidden = told(";good a plain u by m age 20 weighs 8 worth 1;good b oath u by n age 0 weighs 1 worth 1;hides a");
        cheapest(hidden, 1, 0, 31, 3);
        cheapest(hidden, 1, 1, 0, 0);
        SaltedGate always = told(";good a oath u by n age 90 weighs 9 worth 1;good b plain u by m age 20 weighs 2 worth 1;hides a");
        cheapest(always, 1, 0, 0, 3 * 81 + 12);
        cheapest(always, 1, 1, 31, 0);
        // of his goods alone, that he has
        SaltedGate others = told(";good a oath u by n age 5 weighs 1 worth 1;good b plain t by m age 45 weighs 9 worth 1;good c plain u by m age 45 weighs 9 worth 1");
        cheapest(others, 1, 0, 6, 1);
        others.eat(2);
        cheapest(others, 1, 0, 0, 0);
        cheapest(others, 0, 0, 6, 0);
        SaltedGate dear = told(";good a plain u by m age 20 weighs 2 worth 1;good b oath t by n age 300 weighs 9 worth 1");
        cheapest(dear, 1, 0, 31, 0);
        for (String name : new String[] {"cheapestDay", "cheapest"}) {
            EDGES.promise(name.equals("cheapest") ? 22 : 21, "NONE: 1.");
            EDGES.bounds(Scenes::midst, 1, name, new int[] {0, 0}, 0, 0, 1);
            EDGES.bounds(Scenes::fullest, 1, name, new int[] {0, 2}, 0, 0, 3);
            EDGES.bounds(Scenes::midst, 1, name, new int[] {0, 0}, 1, 0, 1);
            EDGES.bounds(Scenes::fullest, 1, name, new int[] {3, 0}, 1, 0, 2);
            EDGES.refused(Scenes::without, 1, name, 0, 0);
        }
    }

    private static void eats(SaltedGate x, int t, int days, int bits, int asked) {
        eatsBy(x, t, 0, days, bits, asked);
    }

    private static void eatsBy(SaltedGate x, int t, int gate, int days, int bits, int asked) {
        EDGES.promise(23, "EAT, as bits.");
        EDGES.due(x, bits, "eats", t, gate, days);
        EDGES.promise(24, "What is asked then.");
        EDGES.due(x, asked, "eatsAsked", t, gate, days);
    }

    private static void eating() {
        EDGES.says(TERMS, "EAT: of what he HAS the goods, as many as his hunger at most (less what he has eaten), without which least is asked by a gate behind so many days:");
        // DUTIES 12, 24, 36, 48 each; hunger 2, and 3 of t, 0 of v
        String goods = ";good a oath # by m age 40 weighs 1 worth 1;good b oath # by m age 40 weighs 2 worth 1"
                + ";good c oath # by m age 40 weighs 3 worth 1;good d oath # by m age 40 weighs 4 worth 1";
        SaltedGate u = told(goods.replace('#', 'u'));
        eats(u, 1, 0, 12, 36);
        eats(u, 1, 10, 12, 45);
        eats(u, 1, 60, 12, 90);
        u.eat(3);
        eats(u, 1, 0, 4, 36);
        u.eat(0);
        eats(u, 1, 0, 0, 24 + 36);
        u.undo();
        eats(u, 1, 0, 4, 36);
        eats(told(goods.replace('#', 'v')), 2, 0, 0, 120);
        SaltedGate t = told(goods.replace('#', 't'));
        eats(t, 0, 0, 14, 0);
        eats(t, 0, 60, 14, 10);
        t.eat(0);
        eats(t, 0, 60, 12, 60 - 20);
        t.cross(0, 0);
        eats(t, 0, 60, 0, 0);
        SaltedGate turned = told(goods.replace("oath #", "plain u"));
        eats(turned, 1, 10, 12, 45);
        eats(turned, 1, 11, 0, 0);
        eats(Scenes.small(), 0, 0, 0, 0);
        // all that he has: one, and as many as his hunger
        eats(told(";good a oath u by m age 40 weighs 1 worth 1"), 1, 0, 1, 0);
        eats(told(";good a oath u by m age 40 weighs 1 worth 1;good b oath u by m age 40 weighs 1 worth 1"), 1, 0, 3, 0);
        // what is hidden and not found costs nothing, so none is eaten; found, it is
        SaltedGate hidden = told(";good a oath u by m age 40 weighs 5 worth 1;good b oath u by n age 40 weighs 6 worth 1;hides a;hides b");
        eats(hidden, 1, 0, 2, 0);
        eats(hidden, 1, 10, 3, 0);
        eats(told(";good a oath u by m age 40 weighs 5 worth 1;hides a"), 1, 9, 0, 0);
        // by g the hidden one is found, by h it isn't
        SaltedGate gates = told(";good a oath u by n age 90 weighs 9 worth 1;good b oath u by m age 40 weighs 1 worth 1;good c oath u by m age 40 weighs 2 worth 1;hides a");
        eatsBy(gates, 1, 0, 0, 5, 12);
        eatsBy(gates, 1, 1, 0, 6, 0);
        SaltedGate one = told(";good a oath u by n age 90 weighs 9 worth 1;hides a");
        eatsBy(one, 1, 0, 0, 1, 0);
        eatsBy(one, 1, 1, 0, 0, 0);
        // what others have is nothing to him
        SaltedGate others = told(";good a fresh u age 0 weighs 1 worth 1;good b oath t by n age 300 weighs 9 worth 1");
        eats(others, 1, 0, 0, 0);
        for (String name : new String[] {"eats", "eatsAsked"}) {
            EDGES.promise(name.equals("eats") ? 23 : 24, "NONE: 1; 2.");
            refusalsOfCrossing(name);
        }
    }

    private static void eatingLikeOnes() {
        EDGES.says(TERMS, "of like ones fewest, then the least bits.");
        eats(told(";good a oath u by m age 40 weighs 2 worth 1;good b oath u by m age 40 weighs 2 worth 1;good c oath u by m age 40 weighs 2 worth 1"), 1, 0, 3, 24);
        eats(told(";good a fresh u age 0 weighs 1 worth 1;good b oath u by m age 40 weighs 2 worth 1;good c fresh u age 0 weighs 1 worth 1"), 1, 0, 2, 0);
        // 20 are allowed: a and b together, or c alone, would bring it to 20
        eats(told(";good a oath t by n age 50 weighs 1 worth 1;good b oath t by n age 50 weighs 1 worth 1;good c oath t by n age 100 weighs 1 worth 1"
                + ";good d oath t by n age 100 weighs 1 worth 1"), 0, 0, 4, 0);
        eats(told(";good a oath t by n age 100 weighs 1 worth 1;good b oath t by n age 100 weighs 1 worth 1;good c oath t by n age 100 weighs 1 worth 1"), 0, 0, 1, 0);
        eats(told(";good a oath t by n age 100 weighs 1 worth 1;good b oath t by n age 100 weighs 1 worth 1"), 0, 0, 0, 0);
        // a hidden one is covered by a fresh one: it is kept, and others are eaten
        SaltedGate x = told(";good a fresh u age 0 weighs 1 worth 1;good b plain u by n age 40 weighs 7 worth 1;good c plain u by m age 40 weighs 1 worth 1;hides b");
        eats(x, 1, 3, 4, 0);
        eats(x, 1, 4, 6, 0);
    }

    private static void hides(SaltedGate x, int t, int gate, int days, int bits, int asked) {
        EDGES.promise(25, "HIDE, as bits.");
        EDGES.due(x, bits, "hideBest", t, gate, days);
        EDGES.promise(26, "What is asked then.");
        EDGES.due(x, asked, "hideAsked", t, gate, days);
    }

    private static void hiding() {
        EDGES.says(TERMS, "HIDE: of his goods those to be hidden (others not) so that nothing is FOUND and least is asked:");
        // smells 9, 10 of u; the nose is 10, or 30
        SaltedGate x = told(";good a oath u by n age 10 weighs 8 worth 1;good b oath u by n age 10 weighs 9 worth 1;good c oath t by n age 200 weighs 9 worth 1;hides b");
        hides(x, 1, 0, 0, 1, 9);
        hides(x, 1, 1, 0, 3, 0);
        hides(x, 1, 0, 10, 0, 16 + 18);
        hides(x, 0, 0, 0, 0, 160);
        hides(x, 0, 1, 0, 4, 0);
        hides(x, 0, 1, 9, 4, 0);
        hides(x, 0, 1, 10, 0, 189 - 20);
        EDGES.same("what is hidden NOW stays so", x.good(1, 5), 1);
        x.eat(0);
        hides(x, 1, 1, 0, 2, 0);
        x.cross(1, 0);
        hides(x, 1, 1, 0, 0, 0);
        // covered by a fresh one up to its third day
        SaltedGate covered = told(";good a oath u by n age 10 weighs 9 worth 1;good b fresh u age 0 weighs 1 worth 1");
        hides(covered, 1, 0, 3, 1, 0);
        hides(covered, 1, 0, 4, 0, 9);
        covered.eat(1);
        hides(covered, 1, 0, 0, 0, 9);
        SaltedGate others = told(";good a fresh u age 0 weighs 1 worth 1;good b oath t by n age 300 weighs 9 worth 1");
        hides(others, 1, 0, 0, 0, 0);
        hides(Scenes.small(), 0, 0, 0, 0, 0);
        for (String name : new String[] {"hideBest", "hideAsked"}) {
            EDGES.promise(name.equals("hideBest") ? 25 : 26, "NONE: 1; 2.");
            refusalsOfCrossing(name);
        }
    }

    private static void hidingLikeOnes() {
        EDGES.says(TERMS, "of like ones fewest, then the least bits. COVER:");
        hides(told(";good a fresh u age 0 weighs 1 worth 1;good b oath u by n age 10 weighs 1 worth 1;good c oath u by n age 9 weighs 1 worth 1;hides a;hides c"), 1, 0, 0, 2, 0);
        // 20 are allowed of 10, 10, 10: one is enough, the first; of 5, 5, 10, 10 the 10
        hides(told(";good a oath t by n age 100 weighs 1 worth 1;good b oath t by n age 100 weighs 1 worth 1;good c oath t by n age 100 weighs 1 worth 1"), 0, 1, 0, 1, 0);
        hides(told(";good a oath t by n age 50 weighs 1 worth 1;good b oath t by n age 50 weighs 1 worth 1;good c oath t by n age 100 weighs 1 worth 1"
                + ";good d oath t by n age 100 weighs 1 worth 1"), 0, 1, 0, 4, 0);
        hides(told(";good a oath t by n age 200 weighs 1 worth 1"), 0, 1, 0, 0, 0);
        hides(told(";good a oath t by n age 210 weighs 1 worth 1"), 0, 1, 0, 1, 0);
    }

    private static void covering() {
        EDGES.says(TERMS, "COVER: how many fresh goods more (0 .. 30) he must have so that nothing that is hidden NOW is FOUND.");
        EDGES.promise(27, "COVER; -2 thirty aren't enough.");
        // an old one of smell 18 + 2 a ten days; the nose is 10
        int[][] cases = {{0, 5}, {250, 30}, {259, 30}, {260, -2}, {300, -2}};
        for (int[] one : cases) {
            SaltedGate x = told(";good a old u by n age " + one[0] + " weighs 9 worth 1;hides a");
            EDGES.due(x, one[1], "cover", 1, 0, 0);
        }
        SaltedGate plain = told(";good a plain u by n age 10 weighs 8 worth 1;good b plain u by n age 0 weighs 9 worth 1;hides a");
        EDGES.due(plain, 0, "cover", 1, 0, 0);
        EDGES.due(plain, 0, "cover", 1, 0, 9);
        EDGES.due(plain, 1, "cover", 1, 0, 10);
        EDGES.due(plain, 1, "cover", 1, 0, 29);
        EDGES.due(plain, 2, "cover", 1, 0, 30);
        EDGES.due(plain, 0, "cover", 1, 1, 60);
        plain.hide(1, true);
        EDGES.due(plain, 1, "cover", 1, 0, 10);
        plain.hide(0, false);
        EDGES.due(plain, 0, "cover", 1, 0, 9);
        EDGES.due(plain, 1, "cover", 1, 0, 10);
        plain.eat(1);
        EDGES.due(plain, 0, "cover", 1, 0, 60);
        EDGES.due(plain, 0, "cover", 0, 0, 60);
        SaltedGate had = told(";good a old u by n age 0 weighs 9 worth 1;good b fresh u age 0 weighs 1 worth 1;good c fresh u age 3 weighs 1 worth 1;hides a");
        EDGES.due(had, 3, "cover", 1, 0, 0);
        EDGES.due(had, 4, "cover", 1, 0, 1);
        EDGES.due(had, 5, "cover", 1, 0, 4);
        had.eat(1);
        EDGES.due(had, 4, "cover", 1, 0, 0);
        had.cross(1, 0);
        EDGES.due(had, 0, "cover", 1, 0, 0);
        // the strongest of the hidden ones, whichever it is
        SaltedGate two = told(";good a plain u by n age 0 weighs 1 worth 1;good b plain u by n age 10 weighs 9 worth 1;good c plain u by n age 90 weighs 9 worth 1;hides a;hides b");
        EDGES.due(two, 1, "cover", 1, 0, 0);
        two.hide(2, true);
        EDGES.due(two, 5, "cover", 1, 0, 0);
        two.hide(1, false);
        two.hide(2, false);
        EDGES.due(two, 0, "cover", 1, 0, 0);
        SaltedGate shown = told(";good a plain u by n age 0 weighs 1 worth 1;good b plain u by n age 90 weighs 9 worth 1;hides a");
        EDGES.due(shown, 0, "cover", 1, 0, 0);
        EDGES.due(Scenes.small(), 0, "cover", 0, 0, 0);
        EDGES.promise(27, "NONE: 1; 2.");
        refusalsOfCrossing("cover");
    }

    private static void holds(SaltedGate x, int g, int days, int had) {
        EDGES.promise(28, "HOLD.");
        EDGES.due(x, days, "hold", g);
        EDGES.promise(29, "What is had by it (may be below 0).");
        EDGES.due(x, had, "holdGain", g);
    }

    private static void holding() {
        EDGES.says(TERMS, "HOLD: a good in the warehouse (whatever became of it): taken out behind n days (0 .. 60) WORTH less DUTY less fee for each day is had: the n by which that is greatest, the first such.");
        String free = HEAD.replace("fee 1", "fee 0").replace("rate 3", "rate 0");
        // wine without a fee or DUTY: one more each ten days, up to 60 days
        SaltedGate wine = Texts.told(free + ";good a wine t by o age 0 weighs 1 worth 5;good b wine t by m age 0 weighs 1 worth 5;good c wine t by m age 50 weighs 1 worth 5");
        holds(wine, 0, 10, 6);
        holds(wine, 1, 50, 10);
        holds(wine, 2, 0, 10);
        SaltedGate long60 = Texts.told(free.replace("keeps 50", "keeps 300") + ";good a wine t by m age 0 weighs 1 worth 5;good b wine t by m age 9 weighs 1 worth 5");
        holds(long60, 0, 60, 11);
        holds(long60, 1, 51, 11);
        // a DUTY so high that it had better turn: behind 60 days, but not behind 61
        SaltedGate turns = told(";good a plain t by n age 241 weighs 9 worth 0;good b plain t by n age 240 weighs 9 worth 0");
        holds(turns, 0, 60, -60);
        holds(turns, 1, 0, -216);
        turns.days(1);
        holds(turns, 0, 59, -59);
        holds(turns, 1, 60, -60);
        turns.eat(0);
        holds(turns, 0, 59, -59);
        turns.cross(0, 0);
        holds(turns, 1, 60, -60);
        // a fee for each day, from the first on
        SaltedGate dear = Texts.told(HEAD.replace("fee 1", "fee 9") + ";good a plain t by n age 299 weighs 1 worth 20;good b fresh t age 0 weighs 1 worth 20"
                + ";good c plain t by n age 300 weighs 1 worth 8");
        holds(dear, 0, 0, -9);
        holds(dear, 1, 0, 20);
        holds(dear, 2, 1, -9);
        // it turns behind a day, for a fee of 1: a DUTY of 1 is as good, and first; of 2 or 3 it is worse
        SaltedGate near = Texts.told(HEAD.replace("rate 0 or", "rate 1 or") + ";good a plain t by o age 10 weighs 1 worth 0"
                + ";good b plain t by o age 10 weighs 2 worth 0;good c plain t by o age 10 weighs 3 worth 0;good d plain t by o age 10 weighs 3 worth 2");
        holds(near, 0, 0, -1);
        holds(near, 1, 1, -1);
        holds(near, 2, 1, -1);
        holds(near, 3, 0, -1);
        EDGES.promise(28, "NONE: 1.");
        EDGES.bounds(Scenes::midst, 1, "hold", new int[] {0}, 0, 0, 4);
        EDGES.bounds(Scenes::fullest, 1, "hold", new int[] {0}, 0, 0, 7);
        EDGES.refused(Scenes::small, 1, "hold", 0);
        EDGES.promise(29, "-10,000: 1.");
        EDGES.bounds(Scenes::midst, 1, "holdGain", new int[] {0}, 0, 0, 4);
        EDGES.bounds(Scenes::fullest, 1, "holdGain", new int[] {0}, 0, 0, 7);
        EDGES.refused(Scenes::small, 1, "holdGain", 0);
    }

    private static void gains() {
        EDGES.says(TERMS, "GAIN of a good behind so many days: what it weighs times the price there less that here (of its means; 0 without prices), less DUTY; TURNED: what it weighs times the price here, below 0.");
        EDGES.promise(30, "GAIN.");
        SaltedGate x = told(";good a plain t by m age 40 weighs 2 worth 1;good b plain t by n age 39 weighs 3 worth 1;good c fresh t age 3 weighs 9 worth 99"
                + ";good d oath u by m age 300 weighs 9 worth 1;good e plain t by o age 10 weighs 9 worth 1;price m here 0 there 99;price o here 99 there 0");
        EDGES.due(x, 2 * 99 - 24, "gain", 0, 0);
        EDGES.due(x, 2 * 99 - 30, "gain", 0, 10);
        EDGES.due(x, 0, "gain", 0, 11);
        EDGES.due(x, -9, "gain", 1, 0);
        EDGES.due(x, -12, "gain", 1, 1);
        EDGES.due(x, 0, "gain", 2, 0);
        EDGES.due(x, 0, "gain", 2, 1);
        EDGES.due(x, 9 * 99 - 9 * 3 * 36, "gain", 3, 60);
        EDGES.due(x, -891, "gain", 4, 0);
        EDGES.due(x, -891, "gain", 4, 1);
        SaltedGate y = told(";good a plain t by o age 10 weighs 9 worth 1;good b plain t by n age 300 weighs 9 worth 1;price o here 7 there 3");
        EDGES.due(y, -36, "gain", 0, 0);
        EDGES.due(y, -63, "gain", 0, 1);
        EDGES.due(y, -270, "gain", 1, 0);
        EDGES.due(y, 0, "gain", 1, 1);
        y.eat(0);
        EDGES.due(y, -36, "gain", 0, 0);
        // another BARRIER's prices are gone with it
        String priced = HEAD + ";good a plain t by o age 0 weighs 9 worth 1;price o here 7 there 3";
        SaltedGate again = Texts.told(priced);
        EDGES.due(again, -36, "gain", 0, 10);
        EDGES.due(again, -63, "gain", 0, 11);
        for (int i = 0; i < 2; i++) {
            Texts.tell(again, priced.replaceAll(";price.*", ""));
            EDGES.due(again, 0, "gain", 0, 10);
            EDGES.due(again, 0, "gain", 0, 11);
        }
        EDGES.promise(30, "-10,000: 1; 2.");
        EDGES.bounds(Scenes::midst, 1, "gain", new int[] {0, 0}, 0, 0, 4);
        EDGES.bounds(Scenes::fullest, 1, "gain", new int[] {0, 60}, 0, 0, 7);
        EDGES.bounds(Scenes::midst, 2, "gain", new int[] {0, 0}, 1, 0, 60);
        EDGES.bounds(Scenes::late, 2, "gain", new int[] {7, 0}, 1, 0, 60);
        EDGES.refused(Scenes::midst, 1, "gain", 5, 61);
        EDGES.refused(Scenes::midst, 1, "gain", -1, -1);
        EDGES.refused(Scenes::small, 1, "gain", 0, 0);
        EDGES.refused(Scenes::without, 1, "gain", 0, 61);
    }

    private static void bestGood() {
        EDGES.says(TERMS, "BEST GOOD of all that anybody HAS: greatest GAIN over 0 .. 60 days, the first by goods, then days.");
        EDGES.promise(31, "BEST GOOD: 100 times the good and the days; -2 nobody HAS any.");
        // a turns behind 60 days: a GAIN of -1 then, -2 ahead of it and more by its DUTY
        String price = ";price n here 1 there 0";
        SaltedGate last = told(";good a plain t by n age 241 weighs 1 worth 1" + price);
        EDGES.due(last, 60, "bestGood");
        SaltedGate tooLate = told(";good a plain t by n age 240 weighs 1 worth 1" + price);
        EDGES.due(tooLate, 0, "bestGood");
        SaltedGate later = told(";good a plain t by n age 241 weighs 1 worth 1;good b plain t by m age 40 weighs 1 worth 1" + price);
        EDGES.due(later, 111, "bestGood");
        later.eat(1);
        EDGES.due(later, 60, "bestGood");
        SaltedGate like = told(";good a plain t by o age 0 weighs 1 worth 1;good b plain u by o age 0 weighs 1 worth 1;good c oath u by o age 0 weighs 1 worth 1;price o here 1 there 9");
        EDGES.due(like, 0, "bestGood");
        like.eat(0);
        EDGES.due(like, 100, "bestGood");
        like.eat(1);
        EDGES.due(like, 200, "bestGood");
        like.cross(1, 0);
        EDGES.due(like, -2, "bestGood");
        like.undo();
        EDGES.due(like, 200, "bestGood");
        SaltedGate first = told(";good a plain t by o age 11 weighs 1 worth 1;good b plain t by o age 0 weighs 2 worth 1;price o here 1 there 9");
        EDGES.due(first, 100, "bestGood");
        SaltedGate eighth = Scenes.fullest();
        for (int t = 0; t < 3; t++) {
            eighth.cross(t, 0);
        }
        eighth.eat(5);
        eighth.eat(6);
        EDGES.due(eighth, 700, "bestGood");
        EDGES.due(Scenes.small(), -2, "bestGood");
        SaltedGate worst = told(";good a oath t by n age 300 weighs 9 worth 1;price n here 99 there 0");
        EDGES.due(worst, 0, "bestGood");
        SaltedGate least = Texts.told(HEAD.replace("rate 1 or", "rate 9 or") + ";good a oath t by n age 300 weighs 9 worth 1;price n here 99 there 0");
        for (int i = 0; i < 5; i++) {
            least.days(60);
        }
        EDGES.due(least, 0, "bestGood");
        EDGES.promise(31, "NONE: 1 (no BARRIER).");
        EDGES.refused(Scenes::without, 1, "bestGood");
    }

    private static final String FOUR = ";traveller w allow 0 hunger 3";

    private static void searching() {
        EDGES.says(TERMS, "SEARCH of so many travellers (of all, if there are fewer): those whose hidden goods that they HAVE are of most WORTH together:");
        EDGES.promise(32, "SEARCH of so many (0 .. 4), as bits.");
        SaltedGate x = told(FOUR + ";good a oath t by n age 0 weighs 1 worth 10;good b oath u by n age 0 weighs 1 worth 6;good c oath u by n age 0 weighs 1 worth 5"
                + ";good d plain v by m age 50 weighs 1 worth 99;good e oath w by n age 0 weighs 1 worth 98;hides a;hides b;hides c;hides d");
        EDGES.due(x, 0, "search", 0);
        EDGES.due(x, 4, "search", 1);
        EDGES.due(x, 6, "search", 2);
        EDGES.due(x, 7, "search", 3);
        EDGES.due(x, 15, "search", 4);
        x.days(1);
        EDGES.due(x, 2, "search", 1);
        EDGES.due(x, 3, "search", 2);
        x.hide(4, true);
        EDGES.due(x, 8, "search", 1);
        EDGES.due(x, 10, "search", 2);
        x.eat(4);
        EDGES.due(x, 2, "search", 1);
        x.hide(2, false);
        EDGES.due(x, 1, "search", 1);
        x.cross(0, 0);
        EDGES.due(x, 2, "search", 1);
        for (int many = 1; many <= 4; many++) {
            EDGES.due(Scenes.small(), 1, "search", many);
        }
        EDGES.due(Scenes.small(), 0, "search", 0);
        EDGES.due(told(""), 7, "search", 3);
        EDGES.due(told(""), 7, "search", 4);
    }

    private static void searchingLikeOnes() {
        EDGES.says(TERMS, "of like ones the least bits.");
        EDGES.due(told(FOUR), 1, "search", 1);
        EDGES.due(told(FOUR), 3, "search", 2);
        EDGES.due(told(FOUR), 7, "search", 3);
        SaltedGate x = told(FOUR + ";good a oath u by n age 0 weighs 1 worth 5;good b oath w by n age 0 weighs 1 worth 5;hides a;hides b");
        EDGES.due(x, 2, "search", 1);
        EDGES.due(x, 10, "search", 2);
        EDGES.due(x, 11, "search", 3);
        EDGES.promise(32, "NONE: 1 (no BARRIER); 2.");
        EDGES.bounds(Scenes::midst, 2, "search", new int[] {0}, 0, 0, 4);
        EDGES.bounds(Scenes::late, 2, "search", new int[] {0}, 0, 0, 4);
        EDGES.refused(Scenes::without, 1, "search", 0);
        EDGES.refused(Scenes::without, 1, "search", 5);
        EDGES.refused(Scenes::without, 1, "search", -1);
    }
}
