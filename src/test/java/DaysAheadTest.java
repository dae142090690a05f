/** Promises 9 to 20: what is so behind so many days more. */
public final class DaysAheadTest {
    private static final Check CHECK = new Check();
    private static final String HEAD = "barrier fee 1 interest 5;means m rate 3 or 2 keeps 50"
            + ";means n rate 1 or 9 keeps 300;means o rate 9 or 0 keeps 10"
            + ";traveller t allow 20 hunger 3;traveller u allow 5 hunger 0"
            + ";gate g nose 10 opens 8 shuts 18;gate h nose 9 opens 0 shuts 23;gate k nose 99 opens 5 shuts 5";

    public static void main(String[] args) {
        ages();
        worths();
        duties();
        smells();
        turning();
        crossings();
        whatIsGone();
        sums();
        nearest();
        bestGate();
        wrong();
        CHECK.end();
    }

    private static SaltedGate told(String goods) {
        return Texts.told(HEAD + goods);
    }

    private static void ages() {
        SaltedGate x = told(";good a plain t by m age 35 weighs 2 worth 20");
        CHECK.due("age now", x.age(0, 0), 35);
        CHECK.due("age behind 60", x.age(0, 60), 95);
        x.days(60);
        CHECK.due("age on day 60", x.age(0, 0), 95);
        CHECK.due("age on day 60, behind 60", x.age(0, 60), 155);
        x.eat(0);
        CHECK.due("age of what is eaten", x.age(0, 1), 96);
    }

    private static void worths() {
        SaltedGate x = told(";good a plain t by m age 40 weighs 2 worth 20;good b wine t by n age 19 weighs 2 worth 30"
                + ";good c fresh t age 0 weighs 1 worth 9;good d oath t by o age 300 weighs 1 worth 8"
                + ";good e wine t by m age 45 weighs 1 worth 50");
        CHECK.due("plain", x.worth(0, 10), 20);
        CHECK.due("plain, turned", x.worth(0, 11), 0);
        CHECK.due("wine of 19 days", x.worth(1, 0), 31);
        CHECK.due("wine of 20 days", x.worth(1, 1), 32);
        CHECK.due("fresh of 3 days", x.worth(2, 3), 9);
        CHECK.due("fresh of 4 days", x.worth(2, 4), 0);
        CHECK.due("an oath never turns", x.worth(3, 60), 8);
        CHECK.due("wine of 50 days", x.worth(4, 5), 55);
        CHECK.due("wine, turned", x.worth(4, 6), 0);
    }

    private static void duties() {
        SaltedGate x = told(";good a plain t by m age 40 weighs 2 worth 20;good b wine t by n age 19 weighs 4 worth 30"
                + ";good c fresh t age 0 weighs 1 worth 9;good d oath t by o age 295 weighs 9 worth 8");
        CHECK.due("plain", x.duty(0, 0), 2 * 3 * 4);
        CHECK.due("plain of 50 days", x.duty(0, 10), 2 * 3 * 5);
        CHECK.due("plain, turned", x.duty(0, 11), 0);
        CHECK.due("whole tens", x.duty(1, 0), 4);
        CHECK.due("whole tens", x.duty(1, 1), 8);
        CHECK.due("fresh", x.duty(2, 3), 0);
        CHECK.due("fresh, turned", x.duty(2, 60), 0);
        CHECK.due("an oath", x.duty(3, 0), 9 * 9 * 29);
        CHECK.due("an oath", x.duty(3, 5), 9 * 9 * 30);
    }

    private static void smells() {
        SaltedGate x = told(";good a old t by n age 59 weighs 3 worth 1;good b plain t by n age 0 weighs 1 worth 1"
                + ";good c fresh t age 0 weighs 4 worth 9;good d fresh t age 2 weighs 3 worth 9"
                + ";good e old u by n age 59 weighs 3 worth 1;good f fresh u age 300 weighs 1 worth 1");
        CHECK.due("old, two fresh", x.smell(0, 0), (3 + 5) * 2 - 4);
        CHECK.due("old, two fresh", x.smell(0, 1), (3 + 6) * 2 - 4);
        CHECK.due("one has turned", x.smell(0, 2), (3 + 6) * 2 - 2);
        CHECK.due("one is 3 days old", x.smell(0, 3), (3 + 6) * 2 - 2);
        CHECK.due("both have turned", x.smell(0, 4), (3 + 6) * 2);
        CHECK.due("at least 0", x.smell(1, 0), 0);
        CHECK.due("itself isn't counted", x.smell(2, 0), 4 - 2);
        CHECK.due("turned ones smell too", x.smell(3, 2), 3 - 2);
        CHECK.due("others' fresh goods don't cover", x.smell(4, 0), 16);
        CHECK.due("what has turned covers nothing", x.smell(4, 0), 16);
        CHECK.due("fresh of 300 days", x.smell(5, 0), 1 + 30);
        x.eat(2);
        CHECK.due("an eaten one covers nothing", x.smell(0, 0), 16 - 2);
        CHECK.due("what is eaten is covered by others", x.smell(2, 0), 4 - 2);
        x.hide(3, true);
        CHECK.due("a hidden one covers", x.smell(0, 0), 16 - 2);
        x.cross(0, 2);
        CHECK.due("what is over covers nothing", x.smell(0, 0), 16);
    }

    private static void turning() {
        SaltedGate x = told(";good a plain t by m age 35 weighs 2 worth 20;good b fresh t age 0 weighs 1 worth 1"
                + ";good c oath t by o age 200 weighs 1 worth 1;good d plain t by o age 11 weighs 1 worth 1"
                + ";good e wine t by n age 0 weighs 1 worth 1;good f fresh t age 3 weighs 1 worth 1");
        CHECK.due("turned(0)", x.turned(0), 16);
        CHECK.due("turned(1)", x.turned(1), 4);
        CHECK.due("turned(2)", x.turned(2), -2);
        CHECK.due("turned(3): already", x.turned(3), 0);
        CHECK.due("turned(4)", x.turned(4), 301);
        CHECK.due("turned(5)", x.turned(5), 1);
        x.days(10);
        CHECK.due("turned(0) from NOW", x.turned(0), 6);
        CHECK.due("turned(1) from NOW", x.turned(1), 0);
        CHECK.due("turned(4) from NOW", x.turned(4), 291);
        CHECK.refused(x, "turned(6)", x.turned(6), -1, 1);
        CHECK.refused(x, "turned(-1)", x.turned(-1), -1, 1);
    }

    /** t: a shown, duty 24; b hidden, smell 10, duty 8; c shown, duty 8; u: d shown, duty 4. */
    private static final String CARRIED = ";good a plain t by m age 40 weighs 2 worth 20"
            + ";good b plain t by n age 20 weighs 8 worth 30;good c oath t by n age 80 weighs 1 worth 3"
            + ";good d plain u by n age 40 weighs 1 worth 2;hides b";

    private static void crossings() {
        SaltedGate x = told(CARRIED);
        CHECK.due("smell(1, 0)", x.smell(1, 0), 10);
        CHECK.due("found: the nose itself", x.found(0, 0, 0), 2);
        CHECK.due("found: below the nose", x.found(0, 2, 0), 0);
        CHECK.due("asked: three times, and less allowed", x.asked(0, 0, 0), 3 * 16 + 24 + 8 - 20);
        CHECK.due("asked: hidden for nothing", x.asked(0, 2, 0), 24 + 8 - 20);
        CHECK.due("asked: at least 0", x.asked(1, 0, 0), 0);
        CHECK.due("asked: at least 0", x.asked(1, 0, 19), 0);
        CHECK.due("asked: of 60 days", x.asked(1, 0, 20), 1);
        CHECK.due("allowed is not for what is found", x.asked(0, 0, 60), 3 * 64 + 14 - 14);
        CHECK.due("another law", x.otherLaw(0, 0, 0), 3 * 8 * 9 * 2 + 2 * 2 * 4 + 9 * 8 - 20);
        CHECK.due("another law", x.otherLaw(0, 2, 0), 2 * 2 * 4 + 9 * 8 - 20);
        CHECK.due("another law", x.otherLaw(1, 0, 0), 36 - 5);
        CHECK.due("behind 11 days a has turned", x.asked(0, 2, 11), 0);
        x.days(11);
        CHECK.due("from NOW", x.asked(0, 2, 0), 0);
        x.hide(1, false);
        CHECK.due("shown NOW", x.asked(0, 0, 0), 8 * 3 + 9 - 20);
        CHECK.due("nothing is found", x.found(0, 0, 0), 0);
    }

    private static void whatIsGone() {
        SaltedGate x = told(CARRIED);
        x.eat(0);
        CHECK.due("asked without a", x.asked(0, 0, 0), 48);
        CHECK.due("carries without a", x.carries(0, 0), 33);
        CHECK.due("dutyBy without a", x.dutyBy(0, 0), 0);
        x.cross(0, 0);
        CHECK.due("asked of nothing", x.asked(0, 0, 0), 0);
        CHECK.due("found of nothing", x.found(0, 0, 0), 0);
        CHECK.due("another law, of nothing", x.otherLaw(0, 0, 0), 0);
        CHECK.due("carries nothing", x.carries(0, 0), 0);
        CHECK.due("dutyBy of what u HAS", x.dutyBy(1, 0), 4);
    }

    private static void sums() {
        SaltedGate x = told(CARRIED);
        CHECK.due("carries", x.carries(0, 0), 53);
        CHECK.due("carries", x.carries(0, 11), 33);
        CHECK.due("carries", x.carries(1, 60), 2);
        CHECK.due("dutyBy", x.dutyBy(0, 0), 24);
        CHECK.due("dutyBy", x.dutyBy(0, 11), 0);
        CHECK.due("dutyBy, hidden or not", x.dutyBy(1, 0), 16 + 8 + 4);
        CHECK.due("dutyBy of no goods", x.dutyBy(2, 0), 0);
    }

    private static void nearest() {
        SaltedGate x = told(";good a plain t by n age 80 weighs 1 worth 1;good b old t by n age 30 weighs 1 worth 1"
                + ";good c plain t by n age 90 weighs 1 worth 1;good d plain t by n age 80 weighs 1 worth 1"
                + ";good e plain u by n age 89 weighs 1 worth 1;hides a;hides b;hides d;hides e");
        CHECK.due("smells", 100 * x.smell(0, 0) + x.smell(1, 0), 908);
        CHECK.due("the first of two", x.nearest(0, 0, 0), 0);
        CHECK.due("those that are found don't count", x.nearest(0, 1, 0), 1);
        CHECK.due("shown ones don't count", x.nearest(0, 2, 0), 0);
        CHECK.due("behind 10 days b smells as a", x.nearest(0, 2, 10), 0);
        CHECK.due("behind 20 days more", x.nearest(0, 2, 20), 1);
        CHECK.due("none", x.nearest(0, 0, 20), -2);
        CHECK.due("u's", x.nearest(1, 0, 0), 4);
        CHECK.due("u's is found", x.nearest(1, 0, 1), -2);
        x.cross(0, 2);
        CHECK.due("what is over doesn't count", x.nearest(0, 2, 0), -2);
        SaltedGate y = told(";good a plain t by n age 0 weighs 1 worth 1;good b fresh t age 0 weighs 1 worth 1;hides a");
        CHECK.due("a smell of 0", y.nearest(0, 0, 0), 0);
    }

    private static void bestGate() {
        SaltedGate x = told(CARRIED);
        CHECK.due("the widest nose", x.bestGate(0, 0), 2);
        CHECK.due("all alike: the first", x.bestGate(1, 0), 0);
        x.hide(1, false);
        CHECK.due("nothing hidden: the first", x.bestGate(0, 0), 0);
        SaltedGate y = told(";good a plain t by n age 79 weighs 2 worth 1;hides a");
        CHECK.due("found only by h", y.bestGate(0, 0), 0);
        CHECK.due("found by both", y.bestGate(0, 1), 2);
    }

    private static void wrong() {
        SaltedGate x = told(CARRIED);
        for (int n : new int[] {-1, 61, Integer.MAX_VALUE, Integer.MIN_VALUE}) {
            String in = "days " + n + ": ";
            CHECK.refused(x, in + "age", x.age(0, n), -1, 2);
            CHECK.refused(x, in + "worth", x.worth(0, n), -1, 2);
            CHECK.refused(x, in + "duty", x.duty(0, n), -1, 2);
            CHECK.refused(x, in + "smell", x.smell(0, n), -1, 2);
            CHECK.refused(x, in + "asked", x.asked(0, 0, n), -1, 2);
            CHECK.refused(x, in + "found", x.found(0, 0, n), -1, 2);
            CHECK.refused(x, in + "otherLaw", x.otherLaw(0, 0, n), -1, 2);
            CHECK.refused(x, in + "carries", x.carries(0, n), -1, 2);
            CHECK.refused(x, in + "dutyBy", x.dutyBy(0, n), -1, 2);
            CHECK.refused(x, in + "nearest", x.nearest(0, 0, n), -1, 2);
            CHECK.refused(x, in + "bestGate", x.bestGate(0, n), -1, 2);
        }
        for (int n : new int[] {-1, 4, -2, Integer.MAX_VALUE, Integer.MIN_VALUE}) {
            String in = "none such " + n + ": ";
            CHECK.refused(x, in + "age", x.age(n, 61), -1, 1);
            CHECK.refused(x, in + "worth", x.worth(n, 61), -1, 1);
            CHECK.refused(x, in + "duty", x.duty(n, 61), -1, 1);
            CHECK.refused(x, in + "smell", x.smell(n, 61), -1, 1);
            CHECK.refused(x, in + "asked", x.asked(n, 0, 61), -1, 1);
            CHECK.refused(x, in + "asked", x.asked(0, n, 61), -1, 1);
            CHECK.refused(x, in + "found", x.found(n, 0, 61), -1, 1);
            CHECK.refused(x, in + "found", x.found(0, n, 0), -1, 1);
            CHECK.refused(x, in + "otherLaw", x.otherLaw(n, 0, 0), -1, 1);
            CHECK.refused(x, in + "otherLaw", x.otherLaw(0, n, 61), -1, 1);
            CHECK.refused(x, in + "carries", x.carries(n, 61), -1, 1);
            CHECK.refused(x, in + "dutyBy", x.dutyBy(n, 61), -1, 1);
            CHECK.refused(x, in + "nearest", x.nearest(n, 0, 61), -1, 1);
            CHECK.refused(x, in + "nearest", x.nearest(0, n, 0), -1, 1);
            CHECK.refused(x, in + "bestGate", x.bestGate(n, 61), -1, 1);
        }
        CHECK.refused(x, "carries(2, 0)", x.carries(2, 0), -1, 1);
        CHECK.refused(x, "dutyBy(3, 0)", x.dutyBy(3, 0), -1, 1);
        CHECK.refused(x, "asked(0, 3, 0)", x.asked(0, 3, 0), -1, 1);
    }
}
