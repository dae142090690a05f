/** Promises 21 to 32: what is best. */
public final class BestTest {
    private static final Check CHECK = new Check();
    private static final String HEAD = "barrier fee 1 interest 5;means m rate 3 or 2 keeps 50"
            + ";means n rate 1 or 9 keeps 300;means o rate 0 or 0 keeps 10"
            + ";traveller t allow 20 hunger 3;traveller u allow 0 hunger 2"
            + ";gate g nose 10 opens 8 shuts 18;gate h nose 30 opens 0 shuts 23";

    public static void main(String[] args) {
        cheapest();
        eating();
        eatingTies();
        hiding();
        hidingTies();
        covering();
        holding();
        gains();
        bestGood();
        searching();
        wrong();
        CHECK.end();
    }

    private static SaltedGate told(String goods) {
        return Texts.told(HEAD + goods);
    }

    private static void cheapest() {
        SaltedGate x = told(";good a plain u by m age 20 weighs 2 worth 1;good b plain u by n age 20 weighs 3 worth 1");
        CHECK.due("a turns behind 31 days", x.cheapestDay(1, 0), 31);
        CHECK.due("cheapest", x.cheapest(1, 0), 15);
        x.days(25);
        CHECK.due("from NOW", x.cheapestDay(1, 0), 6);
        CHECK.due("cheapest from NOW", x.cheapest(1, 0), 15);
        CHECK.due("nothing is asked at all: the first", x.cheapestDay(0, 0), 0);
        CHECK.due("cheapest", x.cheapest(0, 0), 0);
        SaltedGate y = told(";good a oath u by m age 299 weighs 9 worth 1;good b plain u by m age 0 weighs 9 worth 1");
        CHECK.due("the last day that is looked at", y.cheapestDay(1, 0), 0);
        SaltedGate z = told(";good a plain u by n age 241 weighs 1 worth 1;good b fresh u age 0 weighs 1 worth 1");
        CHECK.due("turned behind 60 days", z.cheapestDay(1, 0), 60);
        CHECK.due("cheapest", z.cheapest(1, 0), 0);
        SaltedGate w = told(";good a plain u by n age 240 weighs 1 worth 1");
        CHECK.due("61 days are too many", w.cheapestDay(1, 0), 0);
    }

    private static void eating() {
        SaltedGate x = told(";good a plain t by m age 40 weighs 1 worth 1;good b plain t by m age 40 weighs 2 worth 1"
                + ";good c plain t by m age 40 weighs 3 worth 1;good d plain u by m age 40 weighs 4 worth 1"
                + ";good e plain u by m age 40 weighs 3 worth 1;good f plain u by m age 40 weighs 2 worth 1");
        CHECK.due("duties 12, 24, 36; 20 allowed: all but one", x.eats(0, 0, 0), 6);
        CHECK.due("asked then", x.eatsAsked(0, 0, 0), 0);
        CHECK.due("as many as u's hunger", x.eats(1, 0, 0), 24);
        CHECK.due("asked then", x.eatsAsked(1, 0, 0), 24);
        CHECK.due("behind 11 days all have turned", x.eats(1, 0, 11), 0);
        CHECK.due("asked then", x.eatsAsked(1, 0, 11), 0);
        x.eat(3);
        CHECK.due("hunger less what is eaten", x.eats(1, 0, 0), 16);
        CHECK.due("asked then", x.eatsAsked(1, 0, 0), 24);
        x.eat(4);
        CHECK.due("no hunger", x.eats(1, 0, 0), 0);
        CHECK.due("asked then", x.eatsAsked(1, 0, 0), 24);
        CHECK.due("nothing is eaten by it", x.traveller(0, 3), 7);
    }

    private static void eatingTies() {
        SaltedGate x = told(";good a plain u by m age 40 weighs 2 worth 1;good b plain u by m age 40 weighs 2 worth 1"
                + ";good c plain u by m age 40 weighs 2 worth 1;good d fresh u age 0 weighs 1 worth 1");
        CHECK.due("like ones: the least bits", x.eats(1, 0, 0), 3);
        SaltedGate y = told(";good a fresh u age 0 weighs 1 worth 1;good b plain u by m age 40 weighs 2 worth 1"
                + ";good c fresh u age 0 weighs 1 worth 1");
        CHECK.due("like ones: the fewest", y.eats(1, 0, 0), 2);
        SaltedGate z = told(";good a fresh u age 0 weighs 1 worth 1;good b plain u by n age 40 weighs 7 worth 1"
                + ";good c plain u by m age 40 weighs 1 worth 1;good d plain u by m age 45 weighs 1 worth 1;hides b");
        CHECK.due("b smells 11, covered 9", z.found(1, 0, 0), 0);
        CHECK.due("a covers b, so it isn't eaten", z.eats(1, 0, 0), 12);
        CHECK.due("asked then", z.eatsAsked(1, 0, 0), 0);
        CHECK.due("a covers no more behind 4 days: b is found", z.asked(1, 0, 4), 3 * 28 + 12 + 12);
        CHECK.due("b is eaten then, and c", z.eats(1, 0, 4), 6);
        CHECK.due("asked then", z.eatsAsked(1, 0, 4), 12);
    }

    private static void hiding() {
        SaltedGate x = told(";good a plain t by m age 40 weighs 1 worth 1;good b plain t by m age 40 weighs 2 worth 1"
                + ";good c plain t by m age 40 weighs 7 worth 1;good d fresh t age 0 weighs 9 worth 1;hides c");
        CHECK.due("c smells 11 - 2", x.hideBest(0, 0, 0), 4 + 2);
        CHECK.due("asked then", x.hideAsked(0, 0, 0), 0);
        CHECK.due("d has turned: c would be found", x.hideBest(0, 0, 4), 3);
        CHECK.due("asked then", x.hideAsked(0, 0, 4), 84 - 20);
        CHECK.due("a wider nose", x.hideBest(0, 1, 4), 6);
        CHECK.due("what is hidden NOW means nothing", x.good(2, 5), 1);
        x.eat(2);
        CHECK.due("what is eaten isn't hidden", x.hideBest(0, 1, 0), 2);
        CHECK.due("nothing to hide", x.hideBest(1, 0, 0), 0);
        CHECK.due("nothing is asked", x.hideAsked(1, 0, 0), 0);
    }

    private static void hidingTies() {
        SaltedGate x = told(";good a plain u by m age 40 weighs 2 worth 1;good b plain u by m age 40 weighs 2 worth 1"
                + ";good c plain u by m age 49 weighs 6 worth 1;good d fresh u age 3 weighs 1 worth 1");
        CHECK.due("fresh ones needn't be hidden", x.hideBest(1, 1, 0), 7);
        CHECK.due("asked", x.hideAsked(1, 1, 0), 0);
        SaltedGate y = told(";good a plain t by n age 200 weighs 1 worth 1;good b plain t by n age 200 weighs 1 worth 1");
        CHECK.due("20 are allowed: one is enough, the first", y.hideBest(0, 1, 0), 1);
        CHECK.due("none can be hidden here", y.hideBest(0, 0, 0), 0);
        CHECK.due("asked", y.hideAsked(0, 0, 0), 20);
    }

    private static void covering() {
        SaltedGate x = told(";good a old u by n age 60 weighs 9 worth 1;good b plain u by n age 0 weighs 9 worth 1"
                + ";good c plain t by n age 99 weighs 9 worth 1;hides a");
        CHECK.due("30 down to 8", x.cover(1, 0, 0), 11);
        CHECK.due("30 down to 28", x.cover(1, 1, 0), 1);
        CHECK.due("behind 10 days", x.cover(1, 0, 10), 12);
        CHECK.due("nothing hidden", x.cover(0, 0, 0), 0);
        x.hide(0, false);
        x.hide(1, true);
        CHECK.due("9 is below 10", x.cover(1, 0, 0), 0);
        CHECK.due("10 isn't", x.cover(1, 0, 10), 1);
        x.eat(1);
        CHECK.due("what is eaten isn't found", x.cover(1, 0, 10), 0);
        SaltedGate y = told(";good a old u by n age 255 weighs 9 worth 1;hides a");
        CHECK.due("68 down to 8 by 30", y.cover(1, 0, 0), 30);
        CHECK.due("70 down to 10 by 30", y.cover(1, 0, 5), -2);
        CHECK.due("trouble()", y.trouble(), 0);
        SaltedGate z = told(";good a fresh u age 0 weighs 9 worth 1;good b fresh u age 0 weighs 9 worth 1"
                + ";good c old u by n age 0 weighs 9 worth 1;hides a;hides c");
        CHECK.due("two that are had cover it too: 14", z.cover(1, 0, 0), 3);
        CHECK.due("they have turned: 18", z.cover(1, 0, 4), 5);
    }

    private static void holding() {
        SaltedGate x = told(";good a plain t by m age 20 weighs 1 worth 50;good b plain t by m age 20 weighs 9 worth 9"
                + ";good c wine t by o age 0 weighs 1 worth 3;good d fresh t age 0 weighs 1 worth 10"
                + ";good e oath t by m age 30 weighs 9 worth 0;good f plain t by m age 45 weighs 9 worth 99");
        CHECK.due("hold(0)", x.hold(0), 0);
        CHECK.due("holdGain(0)", x.holdGain(0), 50 - 6);
        CHECK.due("better let it turn", x.hold(1), 31);
        CHECK.due("holdGain(1)", x.holdGain(1), -31);
        CHECK.due("hold(2)", x.hold(2), 0);
        CHECK.due("holdGain(2)", x.holdGain(2), 3);
        CHECK.due("holdGain(3)", x.holdGain(3), 10);
        CHECK.due("holdGain(4)", x.holdGain(4), -81);
        CHECK.due("a loss is all there is", x.hold(5), 6);
        CHECK.due("holdGain(5)", x.holdGain(5), -6);
        x.days(20);
        CHECK.due("from NOW", x.hold(1), 11);
        CHECK.due("from NOW", x.holdGain(1), -11);
        x.eat(0);
        CHECK.due("whatever became of it", x.holdGain(0), 50 - 12);
        SaltedGate y = Texts.told("barrier fee 0 interest 0;means m rate 0 or 0 keeps 100;traveller t allow 0 hunger 1"
                + ";gate g nose 1 opens 0 shuts 0;good a wine t by m age 9 weighs 1 worth 5");
        CHECK.due("without a fee, the first of the best days", y.hold(0), 51);
        CHECK.due("holdGain", y.holdGain(0), 11);
        y.days(60);
        CHECK.due("it turns", y.hold(0), 31);
        CHECK.due("holdGain", y.holdGain(0), 5 + 10);
        CHECK.refused(x, "hold(6)", x.hold(6), -1, 1);
        CHECK.refused(x, "hold(-1)", x.hold(-1), -1, 1);
        CHECK.refused(x, "holdGain(6)", x.holdGain(6), -10000, 1);
        CHECK.refused(x, "holdGain(-1)", x.holdGain(-1), -10000, 1);
    }

    private static void gains() {
        SaltedGate x = told(";good a plain t by m age 40 weighs 2 worth 1;good b plain t by n age 40 weighs 3 worth 1"
                + ";good c fresh t age 0 weighs 4 worth 1;good d oath u by m age 100 weighs 1 worth 1"
                + ";good e plain t by o age 10 weighs 5 worth 1;price m here 7 there 30;price o here 20 there 3");
        CHECK.due("gain(0, 0)", x.gain(0, 0), 2 * 23 - 24);
        CHECK.due("gain(0, 10)", x.gain(0, 10), 2 * 23 - 30);
        CHECK.due("turned", x.gain(0, 11), -14);
        CHECK.due("without prices, less DUTY", x.gain(1, 0), -12);
        CHECK.due("fresh", x.gain(2, 0), 0);
        CHECK.due("fresh, turned", x.gain(2, 4), 0);
        CHECK.due("an oath", x.gain(3, 60), 23 - 48);
        CHECK.due("cheaper there", x.gain(4, 0), -85);
        CHECK.due("turned", x.gain(4, 1), -100);
        x.days(11);
        CHECK.due("from NOW", x.gain(0, 0), -14);
        x.eat(0);
        CHECK.due("of what is eaten", x.gain(0, 0), -14);
        SaltedGate y = told(";good a plain t by o age 11 weighs 9 worth 1");
        CHECK.due("turned, without prices", y.gain(0, 0), 0);
    }

    private static void bestGood() {
        SaltedGate x = told(";good a plain t by m age 40 weighs 2 worth 1;good b plain u by m age 9 weighs 2 worth 1"
                + ";good c plain u by m age 0 weighs 2 worth 1;price m here 7 there 30");
        CHECK.due("the first by goods", x.bestGood(), 100);
        x.days(1);
        CHECK.due("b is ten days old", x.bestGood(), 200);
        x.eat(2);
        CHECK.due("c is eaten", x.bestGood(), 100);
        x.cross(1, 0);
        CHECK.due("a is left", x.bestGood(), 0);
        x.cross(0, 0);
        CHECK.due("nobody HAS any", x.bestGood(), -2);
        CHECK.due("trouble()", x.trouble(), 0);
        SaltedGate y = told(";good a plain t by m age 40 weighs 1 worth 1;price m here 2 there 0");
        CHECK.due("a loss of 2 behind 11 days", y.bestGood(), 11);
        CHECK.due("its gain", y.gain(0, 11), -2);
        CHECK.due("no goods", told("").bestGood(), -2);
        SaltedGate none = new SaltedGate();
        CHECK.refused(none, "bestGood()", none.bestGood(), -1, 1);
    }

    private static void searching() {
        SaltedGate x = told(";traveller v allow 0 hunger 1;traveller w allow 0 hunger 1"
                + ";good a plain t by m age 40 weighs 2 worth 10;good b plain u by m age 0 weighs 2 worth 4"
                + ";good c plain u by m age 0 weighs 2 worth 7;good d plain v by m age 0 weighs 2 worth 10"
                + ";good e plain w by m age 0 weighs 2 worth 99;hides a;hides b;hides c;hides d");
        CHECK.due("search(0)", x.search(0), 0);
        CHECK.due("search(1)", x.search(1), 2);
        CHECK.due("search(2): of like ones the least bits", x.search(2), 3);
        CHECK.due("search(3)", x.search(3), 7);
        CHECK.due("search(4)", x.search(4), 15);
        x.days(11);
        CHECK.due("a has turned", x.search(2), 6);
        x.hide(4, true);
        CHECK.due("e is hidden", x.search(1), 8);
        x.eat(4);
        CHECK.due("e is eaten", x.search(1), 2);
        x.hide(2, false);
        CHECK.due("c is shown", x.search(1), 4);
        CHECK.refused(x, "search(5)", x.search(5), -1, 2);
        CHECK.refused(x, "search(-1)", x.search(-1), -1, 2);
        CHECK.due("all, if there are fewer", told("").search(4), 3);
        CHECK.due("like ones", told("").search(1), 1);
        SaltedGate none = new SaltedGate();
        CHECK.refused(none, "search(5)", none.search(5), -1, 1);
    }

    private static void wrong() {
        SaltedGate x = told(";good a plain t by m age 40 weighs 2 worth 1");
        for (int n : new int[] {-1, 2, Integer.MAX_VALUE, Integer.MIN_VALUE}) {
            CHECK.refused(x, "cheapestDay(n, 0)", x.cheapestDay(n, 0), -1, 1);
            CHECK.refused(x, "cheapestDay(0, n)", x.cheapestDay(0, n), -1, 1);
            CHECK.refused(x, "cheapest(n, 0)", x.cheapest(n, 0), -1, 1);
            CHECK.refused(x, "cheapest(0, n)", x.cheapest(0, n), -1, 1);
            CHECK.refused(x, "eats(n, 0, 61)", x.eats(n, 0, 61), -1, 1);
            CHECK.refused(x, "eats(0, n, 0)", x.eats(0, n, 0), -1, 1);
            CHECK.refused(x, "eatsAsked(n, 0, 0)", x.eatsAsked(n, 0, 0), -1, 1);
            CHECK.refused(x, "eatsAsked(0, n, 61)", x.eatsAsked(0, n, 61), -1, 1);
            CHECK.refused(x, "hideBest(n, 0, 61)", x.hideBest(n, 0, 61), -1, 1);
            CHECK.refused(x, "hideBest(0, n, 0)", x.hideBest(0, n, 0), -1, 1);
            CHECK.refused(x, "hideAsked(n, 0, 0)", x.hideAsked(n, 0, 0), -1, 1);
            CHECK.refused(x, "hideAsked(0, n, 61)", x.hideAsked(0, n, 61), -1, 1);
            CHECK.refused(x, "cover(n, 0, 61)", x.cover(n, 0, 61), -1, 1);
            CHECK.refused(x, "cover(0, n, 0)", x.cover(0, n, 0), -1, 1);
            CHECK.refused(x, "gain(n, 61)", x.gain(n, 61), -10000, 1);
        }
        for (int n : new int[] {-1, 61, Integer.MAX_VALUE, Integer.MIN_VALUE}) {
            CHECK.refused(x, "eats(0, 0, n)", x.eats(0, 0, n), -1, 2);
            CHECK.refused(x, "eatsAsked(0, 0, n)", x.eatsAsked(0, 0, n), -1, 2);
            CHECK.refused(x, "hideBest(0, 0, n)", x.hideBest(0, 0, n), -1, 2);
            CHECK.refused(x, "hideAsked(0, 0, n)", x.hideAsked(0, 0, n), -1, 2);
            CHECK.refused(x, "cover(0, 0, n)", x.cover(0, 0, n), -1, 2);
            CHECK.refused(x, "gain(0, n)", x.gain(0, n), -10000, 2);
        }
    }
}
