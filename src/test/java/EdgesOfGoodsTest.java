/** Terms II: ages, worths, duties, smells, crossings, the plan, at the edges that each sentence names. */
public final class EdgesOfGoodsTest {
    private static final Edges EDGES = new Edges("Terms II");
    private static final String HEAD = "barrier fee 1 interest 5"
            + ";means m rate 3 or 2 keeps 50;means n rate 1 or 9 keeps 300;means o rate 9 or 0 keeps 1"
            + ";traveller t allow 20 hunger 3;traveller u allow 0 hunger 1"
            + ";gate g nose 10 opens 8 shuts 18;gate h nose 9 opens 0 shuts 0;gate k nose 11 opens 23 shuts 23";

    public static void main(String[] args) {
        ages();
        turning();
        worths();
        duties();
        smells();
        covered();
        having();
        finding();
        asking();
        hours();
        thePlan();
        EDGES.end();
    }

    private static SaltedGate told(String goods) {
        return Texts.told(HEAD + goods);
    }

    private static void ages() {
        EDGES.terms("II", "II. AGE: as told on day 0, a day more each day.");
        for (int age : new int[] {0, 1, 299, 300}) {
            SaltedGate x = told(";good a plain t by n age " + age + " weighs 1 worth 1;good b fresh t age " + age + " weighs 1 worth 1");
            EDGES.due(x, age, "age", 0, 0);
            EDGES.due(x, age + 1, "age", 0, 1);
            EDGES.due(x, age + 60, "age", 0, 60);
            EDGES.due(x, age + 60, "age", 1, 60);
            x.days(1);
            EDGES.due(x, age + 1, "age", 0, 0);
            for (int day = 1; day < 300; day += 23) {
                x.days(23);
            }
            EDGES.due(x, 300, "size", 9);
            EDGES.due(x, age + 300, "age", 0, 0);
            EDGES.due(x, age + 360, "age", 0, 60);
        }
        SaltedGate each = told(";good a fresh t age 0 weighs 1 worth 1;good b oath u by n age 7 weighs 1 worth 1;good c wine t by o age 300 weighs 1 worth 1");
        int[] ages = {0, 7, 300};
        for (int g = 0; g < 3; g++) {
            EDGES.due(each, ages[g], "age", g, 0);
            EDGES.due(each, ages[g] + 60, "age", g, 60);
        }
    }

    /** Worths tell what is TURNED: 7 as told, or 0. */
    private static void turning() {
        EDGES.terms("II", "TURNED: AGE above what its means keep");
        for (String kind : new String[] {"plain", "wine", "old"}) {
            SaltedGate x = told(";good a " + kind + " t by m age 49 weighs 1 worth 7;good b " + kind + " t by o age 0 weighs 1 worth 7"
                    + ";good c " + kind + " t by n age 300 weighs 1 worth 7");
            EDGES.is("50 days of 50, " + kind, x.worth(0, 1) > 0);
            EDGES.due(x, 0, "worth", 0, 2);
            EDGES.is("1 day of 1, " + kind, x.worth(1, 1) > 0);
            EDGES.due(x, 0, "worth", 1, 2);
            EDGES.is("300 days of 300, " + kind, x.worth(2, 0) > 0);
            EDGES.due(x, 0, "worth", 2, 1);
        }
        EDGES.terms("II", "(fresh: above 3; an oath never).");
        SaltedGate y = told(";good a fresh t age 0 weighs 1 worth 7;good b fresh t age 3 weighs 1 worth 7;good c fresh t age 4 weighs 1 worth 7"
                + ";good d oath t by o age 300 weighs 1 worth 7");
        EDGES.due(y, 7, "worth", 0, 3);
        EDGES.due(y, 0, "worth", 0, 4);
        EDGES.due(y, 7, "worth", 1, 0);
        EDGES.due(y, 0, "worth", 1, 1);
        EDGES.due(y, 0, "worth", 2, 0);
        EDGES.due(y, 7, "worth", 3, 60);
        for (int i = 0; i < 5; i++) {
            y.days(60);
        }
        EDGES.due(y, 7, "worth", 3, 60);
        EDGES.due(y, -2, "turned", 3);
    }

    private static void worths() {
        EDGES.terms("II", "WORTH: as told, of wine 1 more for each ten days of AGE; TURNED 0.");
        for (int worth : new int[] {0, 99}) {
            SaltedGate x = told(";good a wine t by n age 9 weighs 9 worth " + worth + ";good b plain t by n age 9 weighs 9 worth " + worth
                    + ";good c old t by n age 9 weighs 9 worth " + worth + ";good d oath t by n age 9 weighs 9 worth " + worth
                    + ";good e fresh t age 0 weighs 9 worth " + worth + ";good f wine t by n age 290 weighs 9 worth " + worth);
            EDGES.due(x, worth, "worth", 0, 0);
            EDGES.due(x, worth + 1, "worth", 0, 1);
            EDGES.due(x, worth + 1, "worth", 0, 10);
            EDGES.due(x, worth + 2, "worth", 0, 11);
            for (int g = 1; g <= 3; g++) {
                EDGES.due(x, worth, "worth", g, 0);
                EDGES.due(x, worth, "worth", g, 11);
            }
            EDGES.due(x, worth, "worth", 4, 0);
            EDGES.due(x, worth + 29, "worth", 5, 9);
            EDGES.due(x, worth + 30, "worth", 5, 10);
            EDGES.due(x, 0, "worth", 5, 11);
        }
    }

    private static void duties() {
        EDGES.terms("II", "DUTY: what it weighs times the rate of its means times how many whole tens of days its AGE has;");
        String[] kinds = {"plain", "wine", "old", "oath"};
        for (String kind : kinds) {
            SaltedGate x = told(";good a " + kind + " t by m age 8 weighs 9 worth 1;good b " + kind + " t by n age 240 weighs 1 worth 1");
            EDGES.due(x, 0, "duty", 0, 0);
            EDGES.due(x, 0, "duty", 0, 1);
            EDGES.due(x, 9 * 3, "duty", 0, 2);
            EDGES.due(x, 9 * 3, "duty", 0, 11);
            EDGES.due(x, 9 * 3 * 2, "duty", 0, 12);
            EDGES.due(x, 29, "duty", 1, 59);
            EDGES.due(x, 30, "duty", 1, 60);
        }
        SaltedGate zero = Texts.told((HEAD + ";good a oath t by n age 300 weighs 9 worth 1").replace("rate 1 or", "rate 0 or"));
        EDGES.due(zero, 0, "duty", 0, 60);

        EDGES.terms("II", "of fresh ones, of what is TURNED 0.");
        SaltedGate y = told(";good a plain t by m age 50 weighs 9 worth 1;good b fresh t age 0 weighs 9 worth 1;good c fresh t age 300 weighs 9 worth 1"
                + ";good d oath t by m age 50 weighs 9 worth 1");
        EDGES.due(y, 9 * 3 * 5, "duty", 0, 0);
        EDGES.due(y, 0, "duty", 0, 1);
        EDGES.due(y, 0, "duty", 1, 0);
        EDGES.due(y, 0, "duty", 1, 3);
        EDGES.due(y, 0, "duty", 1, 60);
        EDGES.due(y, 0, "duty", 2, 0);
        EDGES.due(y, 9 * 3 * 5, "duty", 3, 1);
    }

    private static void smells() {
        EDGES.terms("II", "SMELL: what it weighs and how many whole tens of days its AGE has, together;");
        for (String kind : new String[] {"plain", "wine", "oath"}) {
            SaltedGate x = told(";good a " + kind + " t by m age 49 weighs 9 worth 1");
            EDGES.due(x, 13, "smell", 0, 0);
            EDGES.due(x, 14, "smell", 0, 1);
            EDGES.due(x, 14, "smell", 0, 2);
            EDGES.due(x, 9 + 10, "smell", 0, 60);
        }
        SaltedGate fresh = told(";good a fresh t age 9 weighs 1 worth 1;good b fresh u age 0 weighs 1 worth 1");
        EDGES.due(fresh, 1, "smell", 0, 0);
        EDGES.due(fresh, 2, "smell", 0, 1);
        EDGES.due(fresh, 1, "smell", 1, 0);

        EDGES.terms("II", "of an old one twice that;");
        SaltedGate old = told(";good a old t by m age 49 weighs 9 worth 1;good b old t by n age 300 weighs 9 worth 1");
        EDGES.due(old, 26, "smell", 0, 0);
        EDGES.due(old, 28, "smell", 0, 1);
        EDGES.due(old, 28, "smell", 0, 2);
        EDGES.due(old, 2 * (9 + 36), "smell", 1, 60);
    }

    private static void covered() {
        EDGES.terms("II", "less 2 for each fresh good not TURNED that its traveller has (itself not counted);");
        SaltedGate x = told(";good a old t by n age 0 weighs 9 worth 1;good b fresh t age 3 weighs 9 worth 1;good c fresh t age 0 weighs 9 worth 1"
                + ";good d fresh u age 0 weighs 9 worth 1;good e plain u by n age 0 weighs 9 worth 1;good f fresh t age 4 weighs 9 worth 1");
        EDGES.due(x, 18 - 4, "smell", 0, 0);
        EDGES.due(x, 18 - 2, "smell", 0, 1);
        EDGES.due(x, 18 - 2, "smell", 0, 3);
        EDGES.due(x, 18, "smell", 0, 4);
        EDGES.due(x, 9 - 2, "smell", 1, 0);
        EDGES.due(x, 9 - 2, "smell", 2, 0);
        EDGES.due(x, 9, "smell", 2, 1);
        EDGES.due(x, 9, "smell", 3, 0);
        EDGES.due(x, 9 - 2, "smell", 4, 0);
        EDGES.due(x, 9 - 4, "smell", 5, 0);
        x.eat(2);
        EDGES.due(x, 18 - 2, "smell", 0, 0);
        EDGES.due(x, 9 - 2, "smell", 2, 0);
        x.hide(1, true);
        EDGES.due(x, 18 - 2, "smell", 0, 0);
        x.eat(1);
        EDGES.due(x, 18, "smell", 0, 0);
        x.cross(1, 0);
        EDGES.due(x, 9, "smell", 4, 0);

        EDGES.terms("II", "at least 0.");
        SaltedGate y = told(";good a plain t by n age 0 weighs 3 worth 1;good b fresh t age 0 weighs 1 worth 1;good c fresh t age 0 weighs 1 worth 1"
                + ";good d plain t by n age 0 weighs 5 worth 1;good e plain t by n age 0 weighs 4 worth 1");
        EDGES.due(y, 0, "smell", 0, 0);
        EDGES.due(y, 1, "smell", 3, 0);
        EDGES.due(y, 0, "smell", 4, 0);
        EDGES.due(y, 0, "smell", 1, 0);
    }

    private static void having() {
        EDGES.terms("II", "A traveller HAS his goods that aren't eaten, over, seized.");
        SaltedGate x = told(";good a plain t by n age 0 weighs 1 worth 1;good b plain u by n age 90 weighs 9 worth 2;good c plain t by n age 0 weighs 1 worth 4"
                + ";good d plain u by n age 0 weighs 1 worth 8;hides b;hides a");
        EDGES.due(x, 5, "traveller", 0, 3);
        EDGES.due(x, 10, "traveller", 1, 3);
        x.eat(0);
        EDGES.due(x, 4, "traveller", 0, 3);
        EDGES.due(x, 4, "carries", 0, 0);
        x.cross(1, 0);
        EDGES.due(x, 3, "good", 1, 4);
        EDGES.due(x, 2, "good", 3, 4);
        EDGES.due(x, 0, "traveller", 1, 3);
        EDGES.due(x, 0, "carries", 1, 0);
        EDGES.due(x, 4, "traveller", 0, 3);
        x.cross(0, 0);
        EDGES.due(x, 0, "traveller", 0, 3);
    }

    private static void finding() {
        EDGES.terms("II", "A CROSSING by a gate on a day: a hidden one whose SMELL is the gate's nose, or more, is FOUND: 3 times its DUTY is asked, and it is seized;");
        // smells 9, 10, 11 by noses 10, 9, 11
        String goods = ";good a plain u by n age 10 weighs 8 worth 1;good b plain u by n age 10 weighs 9 worth 1"
                + ";good c plain u by n age 20 weighs 9 worth 1";
        String hides = ";hides a;hides b;hides c";
        int[] found = {6, 7, 4};
        int[] asked = {3 * (9 + 18), 3 * (8 + 9 + 18), 3 * 18};
        for (int k = 0; k < 3; k++) {
            SaltedGate x = told(goods + hides);
            EDGES.due(x, found[k], "found", 1, k, 0);
            EDGES.due(x, asked[k], "asked", 1, k, 0);
            EDGES.due(x, asked[k], "cross", 1, k);
            for (int g = 0; g < 3; g++) {
                EDGES.due(x, (found[k] >> g & 1) != 0 ? 3 : 2, "good", g, 4);
            }
        }
        SaltedGate turned = told(";good a plain u by m age 90 weighs 9 worth 1;hides a");
        EDGES.due(turned, 1, "found", 1, 0, 0);
        EDGES.due(turned, 0, "cross", 1, 0);
        EDGES.due(turned, 3, "good", 0, 4);
        SaltedGate fresh = told(";good a fresh u age 10 weighs 9 worth 1;hides a");
        EDGES.due(fresh, 0, "found", 1, 2, 0);
        EDGES.due(fresh, 1, "found", 1, 0, 0);
        // of its traveller, and had by him: eaten, or another's, a fresh one covers nothing
        SaltedGate covered = told(";good a plain u by n age 10 weighs 9 worth 1;good b fresh u age 0 weighs 1 worth 1;good c fresh t age 0 weighs 1 worth 1;hides a");
        EDGES.due(covered, 0, "found", 1, 0, 0);
        EDGES.due(covered, 0, "asked", 1, 0, 0);
        covered.eat(1);
        EDGES.due(covered, 1, "found", 1, 0, 0);
        EDGES.due(covered, 27, "asked", 1, 0, 0);
        EDGES.due(covered, 27, "cross", 1, 0);

        EDGES.terms("II", "hidden ones else are over for nothing;");
        SaltedGate y = told(goods + ";hides a");
        EDGES.due(y, 0, "found", 1, 0, 0);
        EDGES.due(y, 9 + 18, "cross", 1, 0);
        for (int g = 0; g < 3; g++) {
            EDGES.due(y, 2, "good", g, 4);
        }
        SaltedGate shown = told(goods);
        EDGES.due(shown, 0, "found", 1, 1, 0);
        EDGES.due(shown, 8 + 9 + 18, "cross", 1, 1);
    }

    private static void asking() {
        EDGES.terms("II", "of others DUTY, together less what he is allowed (at least 0).");
        // t is allowed 20
        int[] weighs = {9, 1, 2};
        for (int i = 0; i < 3; i++) {
            int more = i == 0 ? 19 : 19 + i;
            SaltedGate x = told(";good a oath t by n age " + 10 * more + " weighs 1 worth 1");
            EDGES.due(x, Math.max(0, more - 20), "asked", 0, 0, 0);
            SaltedGate two = told(";good a oath t by n age 100 weighs 1 worth 1;good b oath t by n age 10 weighs " + weighs[i] + " worth 1");
            EDGES.due(two, 0, "asked", 0, 0, 0);
            EDGES.due(two, Math.max(0, 16 + 7 * weighs[i] - 20), "asked", 0, 0, 60);
        }
        SaltedGate alike = told(";good a oath t by n age 150 weighs 1 worth 1;good b oath t by n age 60 weighs 1 worth 1");
        EDGES.due(alike, 1, "asked", 0, 0, 0);
        SaltedGate found = told(";good a oath t by n age 150 weighs 1 worth 1;good b oath t by n age 60 weighs 1 worth 1;hides a");
        EDGES.due(found, 45, "asked", 0, 0, 0);
        EDGES.due(found, 45, "asked", 0, 1, 0);
        SaltedGate none = told(";good a plain u by m age 50 weighs 1 worth 1");
        EDGES.due(none, 15, "asked", 1, 0, 0);
        EDGES.due(none, 0, "asked", 1, 0, 1);
        EDGES.due(none, 0, "asked", 0, 0, 0);
    }

    private static void hours() {
        EDGES.terms("II", "It can't be if the gate is shut at that hour (it is open from opens to shuts, both too).");
        int[] opens = {8, 0, 23};
        int[] shuts = {18, 0, 23};
        String[] gates = {"g", "h", "k"};
        for (int k = 0; k < 3; k++) {
            for (int hour = 0; hour <= 23; hour++) {
                boolean open = hour >= opens[k] && hour <= shuts[k];
                SaltedGate x = told(";good a oath u by n age 10 weighs 1 worth 1;crosses u " + gates[k] + " day 0 hour " + hour);
                EDGES.due(x, open ? 1 : -2, "planned", 0);
                EDGES.due(x, open ? -2 : 0, "judge");
                EDGES.due(x, open ? 1 : 0, "planOver", 0);
            }
        }
    }

    private static void thePlan() {
        EDGES.terms("II", "THE PLAN: all crossings as told, from the beginning (goods as told, hidden as told; nothing eaten).");
        SaltedGate x = told(";good a oath u by n age 10 weighs 1 worth 1;good b oath u by n age 100 weighs 9 worth 1;good c oath t by n age 280 weighs 1 worth 1"
                + ";hides b;crosses u g day 0 hour 9;crosses u g day 0 hour 9;crosses t g day 20 hour 19;crosses t g day 20 hour 18");
        for (int again = 0; again < 2; again++) {
            EDGES.due(x, 3 * 90 + 1, "planned", 0);
            EDGES.due(x, 0, "planned", 1);
            EDGES.due(x, -2, "planned", 2);
            EDGES.due(x, 10, "planned", 3);
            EDGES.due(x, 1 + 4, "planOver", 0);
            EDGES.due(x, 2, "planOver", 1);
            x.eat(0);
            x.hide(1, false);
            x.hide(2, true);
            x.cross(0, 0);
            x.days(60);
        }
    }
}
