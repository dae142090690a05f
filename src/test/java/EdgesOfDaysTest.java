/** Promises 9 to 20: behind so many days more, at the edges that each sentence names. */
public final class EdgesOfDaysTest {
    private static final Edges EDGES = Edges.ofPromises(9, 20);
    private static final String HEAD = "barrier fee 1 interest 5"
            + ";means m rate 3 or 2 keeps 50;means n rate 1 or 9 keeps 300;means o rate 9 or 0 keeps 1"
            + ";traveller t allow 20 hunger 3;traveller u allow 0 hunger 1"
            + ";gate g nose 10 opens 8 shuts 18;gate h nose 9 opens 0 shuts 0;gate k nose 11 opens 23 shuts 23";

    public static void main(String[] args) {
        promises9To12();
        promise13();
        promise14();
        promise15();
        promise16();
        promise17();
        promise18();
        promise19();
        promise20();
        EDGES.end();
    }

    private static SaltedGate told(String goods) {
        return Texts.told(HEAD + goods);
    }

    /** Refusals of a call of a row and days: both sides of each, 1 ahead of 2. */
    private static void refusals(String name, int rowsInMidst, int rowsInFullest) {
        EDGES.bounds(Scenes::midst, 1, name, new int[] {0, 0}, 0, 0, rowsInMidst - 1);
        EDGES.bounds(Scenes::fullest, 1, name, new int[] {0, 60}, 0, 0, rowsInFullest - 1);
        EDGES.bounds(Scenes::midst, 2, name, new int[] {0, 0}, 1, 0, 60);
        EDGES.bounds(Scenes::late, 2, name, new int[] {rowsInFullest - 1, 0}, 1, 0, 60);
        EDGES.refused(Scenes::midst, 1, name, rowsInMidst, 61);
        EDGES.refused(Scenes::midst, 1, name, -1, -1);
        EDGES.refused(Scenes::without, 1, name, 0, 61);
    }

    /** Refusals of a call of a traveller, a gate and days. */
    private static void refusalsOfCrossing(String name) {
        EDGES.bounds(Scenes::midst, 1, name, new int[] {0, 0, 0}, 0, 0, 1);
        EDGES.bounds(Scenes::fullest, 1, name, new int[] {0, 2, 60}, 0, 0, 3);
        EDGES.bounds(Scenes::midst, 1, name, new int[] {0, 0, 0}, 1, 0, 1);
        EDGES.bounds(Scenes::fullest, 1, name, new int[] {3, 0, 60}, 1, 0, 2);
        EDGES.bounds(Scenes::small, 1, name, new int[] {0, 0, 0}, 1, 0, 0);
        EDGES.bounds(Scenes::midst, 2, name, new int[] {0, 0, 0}, 2, 0, 60);
        EDGES.bounds(Scenes::late, 2, name, new int[] {3, 2, 0}, 2, 0, 60);
        EDGES.refused(Scenes::midst, 1, name, 2, 0, 61);
        EDGES.refused(Scenes::midst, 1, name, 0, 2, -1);
        EDGES.refused(Scenes::without, 1, name, 0, 0, 61);
    }

    private static void promises9To12() {
        SaltedGate x = told(";good a wine t by n age 299 weighs 9 worth 50;good b old t by n age 9 weighs 9 worth 5");
        EDGES.promise(9, "AGE.");
        EDGES.due(x, 299, "age", 0, 0);
        EDGES.due(x, 359, "age", 0, 60);
        EDGES.promise(9, "NONE: 1; 2.");
        refusals("age", 5, 8);
        EDGES.refused(Scenes::small, 1, "age", 0, 0);

        EDGES.promise(10, "WORTH.");
        EDGES.due(x, 50 + 29, "worth", 0, 0);
        EDGES.due(x, 50 + 30, "worth", 0, 1);
        EDGES.due(x, 0, "worth", 0, 2);
        EDGES.promise(10, "NONE: 1; 2.");
        refusals("worth", 5, 8);
        EDGES.refused(Scenes::small, 1, "worth", 0, 0);

        EDGES.promise(11, "DUTY.");
        EDGES.due(x, 9 * 29, "duty", 0, 0);
        EDGES.due(x, 9 * 30, "duty", 0, 1);
        EDGES.due(x, 0, "duty", 0, 2);
        EDGES.due(x, 0, "duty", 1, 0);
        EDGES.due(x, 9 * 6, "duty", 1, 60);
        EDGES.promise(11, "NONE: 1; 2.");
        refusals("duty", 5, 8);
        EDGES.refused(Scenes::small, 1, "duty", 0, 0);

        EDGES.promise(12, "SMELL.");
        EDGES.due(x, 9 + 29, "smell", 0, 0);
        EDGES.due(x, 9 + 35, "smell", 0, 60);
        EDGES.due(x, 18, "smell", 1, 0);
        EDGES.due(x, 18 + 12, "smell", 1, 60);
        EDGES.promise(12, "NONE: 1; 2.");
        refusals("smell", 5, 8);
        EDGES.refused(Scenes::small, 1, "smell", 0, 0);
    }

    private static void promise13() {
        EDGES.promise(13, "Behind how many days (0 .. 301) it is TURNED first; -2 it never is.");
        SaltedGate x = told(";good a plain t by n age 0 weighs 1 worth 1;good b plain t by n age 300 weighs 1 worth 1;good c plain t by o age 2 weighs 1 worth 1"
                + ";good d plain t by o age 1 weighs 1 worth 1;good e fresh t age 0 weighs 1 worth 1;good f fresh t age 4 weighs 1 worth 1"
                + ";good i oath t by o age 0 weighs 1 worth 1;good j oath t by o age 300 weighs 1 worth 1");
        int[] turned = {301, 1, 0, 1, 4, 0, -2, -2};
        for (int g = 0; g < 8; g++) {
            EDGES.due(x, turned[g], "turned", g);
        }
        x.days(1);
        int[] then = {300, 0, 0, 0, 3, 0, -2, -2};
        for (int g = 0; g < 8; g++) {
            EDGES.due(x, then[g], "turned", g);
        }
        x.days(59);
        for (int i = 0; i < 4; i++) {
            x.days(60);
        }
        EDGES.due(x, 1, "turned", 0);
        EDGES.due(x, 0, "turned", 4);
        EDGES.due(x, -2, "turned", 6);
        EDGES.promise(13, "NONE: 1.");
        EDGES.bounds(Scenes::midst, 1, "turned", new int[] {0}, 0, 0, 4);
        EDGES.bounds(Scenes::fullest, 1, "turned", new int[] {0}, 0, 0, 7);
        EDGES.refused(Scenes::small, 1, "turned", 0);
    }

    /** Of t: a shown, DUTY 24; b hidden, SMELL 10, DUTY 16; of u: d shown, DUTY 4. */
    private static final String CARRIED = ";good a plain t by m age 40 weighs 2 worth 20"
            + ";good b plain t by n age 20 weighs 8 worth 30;good d plain u by n age 40 weighs 1 worth 2;hides b";

    private static void promise14() {
        EDGES.promise(14, "What is asked of a traveller who crosses by a gate.");
        SaltedGate x = told(CARRIED);
        EDGES.due(x, 48 + 4, "asked", 0, 0, 0);
        EDGES.due(x, 48 + 4, "asked", 0, 1, 0);
        EDGES.due(x, 4, "asked", 0, 2, 0);
        EDGES.due(x, 4, "asked", 0, 2, 9);
        EDGES.due(x, 3 * 24 + 30 - 20, "asked", 0, 2, 10);
        EDGES.due(x, 3 * 24, "asked", 0, 2, 11);
        EDGES.due(x, 3 * 64, "asked", 0, 2, 60);
        EDGES.due(x, 4, "asked", 1, 0, 0);
        EDGES.due(x, 10, "asked", 1, 0, 60);
        EDGES.due(Scenes.small(), 0, "asked", 0, 0, 0);
        EDGES.promise(14, "NONE: 1; 2.");
        refusalsOfCrossing("asked");
    }

    private static void promise15() {
        EDGES.promise(15, "What is FOUND, as bits.");
        SaltedGate x = told(CARRIED);
        EDGES.due(x, 2, "found", 0, 0, 0);
        EDGES.due(x, 2, "found", 0, 1, 0);
        EDGES.due(x, 0, "found", 0, 2, 9);
        EDGES.due(x, 2, "found", 0, 2, 10);
        EDGES.due(x, 0, "found", 1, 1, 60);
        EDGES.due(Scenes.small(), 0, "found", 0, 0, 0);
        SaltedGate all = Texts.told(HEAD + ";good a fresh u age 99 weighs 1 worth 1;good b fresh u age 99 weighs 1 worth 1;good c fresh u age 99 weighs 1 worth 1"
                + ";good d fresh u age 99 weighs 1 worth 1;good e fresh u age 99 weighs 1 worth 1;good f fresh u age 99 weighs 1 worth 1"
                + ";good i fresh u age 99 weighs 1 worth 1;good j fresh u age 99 weighs 1 worth 1"
                + ";hides a;hides b;hides c;hides d;hides e;hides f;hides i;hides j");
        EDGES.due(all, 255, "found", 1, 0, 0);
        EDGES.due(all, 0, "found", 1, 2, 0);
        EDGES.due(all, 255, "found", 1, 2, 1);
        EDGES.promise(15, "NONE: 1; 2.");
        refusalsOfCrossing("found");
    }

    private static void promise16() {
        EDGES.promise(16, "What would be asked by THE OTHER LAW.");
        SaltedGate x = told(CARRIED);
        EDGES.due(x, 3 * 144, "otherLaw", 0, 0, 0);
        EDGES.due(x, 0, "otherLaw", 0, 2, 0);
        EDGES.due(x, 3 * 8 * 9 * 3, "otherLaw", 0, 2, 10);
        EDGES.due(x, 36, "otherLaw", 1, 0, 0);
        EDGES.due(x, 90, "otherLaw", 1, 0, 60);
        SaltedGate y = told(";good a oath t by n age 20 weighs 1 worth 1;good b oath t by m age 10 weighs 1 worth 1;good c oath t by m age 10 weighs 1 worth 1");
        EDGES.due(y, 2, "otherLaw", 0, 0, 0);
        SaltedGate z = told(";good a oath u by o age 90 weighs 9 worth 1");
        EDGES.due(z, 729, "asked", 1, 0, 0);
        EDGES.due(z, 0, "otherLaw", 1, 0, 0);
        EDGES.promise(16, "NONE: 1; 2.");
        refusalsOfCrossing("otherLaw");
    }

    private static void promise17() {
        EDGES.promise(17, "WORTH of all that a traveller HAS, together.");
        SaltedGate x = told(CARRIED);
        EDGES.due(x, 50, "carries", 0, 0);
        EDGES.due(x, 50, "carries", 0, 10);
        EDGES.due(x, 30, "carries", 0, 11);
        EDGES.due(x, 2, "carries", 1, 60);
        x.eat(1);
        EDGES.due(x, 20, "carries", 0, 0);
        x.cross(0, 0);
        EDGES.due(x, 0, "carries", 0, 0);
        EDGES.due(x, 2, "carries", 1, 0);
        EDGES.due(Scenes.small(), 0, "carries", 0, 60);
        EDGES.promise(17, "NONE: 1; 2.");
        refusals("carries", 2, 4);
    }

    private static void promise18() {
        EDGES.promise(18, "DUTY of all goods by some means that anybody HAS, hidden or not, together.");
        SaltedGate x = told(CARRIED);
        EDGES.due(x, 24, "dutyBy", 0, 0);
        EDGES.due(x, 30, "dutyBy", 0, 10);
        EDGES.due(x, 0, "dutyBy", 0, 11);
        EDGES.due(x, 16 + 4, "dutyBy", 1, 0);
        EDGES.due(x, 64 + 10, "dutyBy", 1, 60);
        EDGES.due(x, 0, "dutyBy", 2, 60);
        x.cross(1, 0);
        EDGES.due(x, 16, "dutyBy", 1, 0);
        x.eat(1);
        EDGES.due(x, 0, "dutyBy", 1, 0);
        x.cross(0, 0);
        EDGES.due(x, 0, "dutyBy", 0, 0);
        EDGES.promise(18, "NONE: 1; 2.");
        refusals("dutyBy", 2, 4);
        EDGES.refused(Scenes::small, 1, "dutyBy", 0, 0);
        EDGES.refused(Scenes::midst, 1, "dutyBy", -2, 0);
    }

    private static void promise19() {
        EDGES.promise(19, "Of the hidden goods that a traveller HAS the one of greatest SMELL that isn't FOUND at a gate, the first such; -2.");
        // smells 9, 8, 10, 9, 9, and 30 of what is shown
        SaltedGate x = told(";good a plain t by n age 80 weighs 1 worth 1;good b old t by n age 30 weighs 1 worth 1;good c plain t by n age 90 weighs 1 worth 1"
                + ";good d plain t by n age 80 weighs 1 worth 1;good e plain u by n age 89 weighs 1 worth 1;good f old t by n age 149 weighs 1 worth 1"
                + ";hides a;hides b;hides c;hides d;hides e");
        EDGES.due(x, 0, "nearest", 0, 0, 0);
        EDGES.due(x, 1, "nearest", 0, 1, 0);
        EDGES.due(x, 2, "nearest", 0, 2, 0);
        EDGES.due(x, 4, "nearest", 1, 0, 0);
        EDGES.due(x, -2, "nearest", 1, 1, 0);
        EDGES.due(x, -2, "nearest", 1, 0, 1);
        EDGES.due(x, 4, "nearest", 1, 2, 1);
        x.eat(2);
        EDGES.due(x, 0, "nearest", 0, 2, 0);
        x.eat(0);
        EDGES.due(x, 3, "nearest", 0, 2, 0);
        x.hide(3, false);
        EDGES.due(x, 1, "nearest", 0, 2, 0);
        x.hide(1, false);
        EDGES.due(x, -2, "nearest", 0, 2, 0);
        x.cross(1, 2);
        EDGES.due(x, -2, "nearest", 1, 2, 0);
        SaltedGate none = told(";good a plain t by n age 0 weighs 2 worth 1;good b fresh t age 0 weighs 1 worth 1;hides a;hides b");
        EDGES.due(none, 1, "nearest", 0, 1, 0);
        none.hide(1, false);
        EDGES.due(none, 0, "nearest", 0, 1, 0);
        EDGES.due(Scenes.small(), -2, "nearest", 0, 0, 0);
        // covered by what he has, hidden or not, up to the nose
        SaltedGate covered = told(";good a plain t by n age 80 weighs 3 worth 1;good b fresh t age 0 weighs 1 worth 1;hides a");
        EDGES.due(covered, 0, "nearest", 0, 0, 0);
        EDGES.due(covered, 0, "nearest", 0, 0, 3);
        EDGES.due(covered, -2, "nearest", 0, 0, 4);
        covered.eat(1);
        EDGES.due(covered, -2, "nearest", 0, 0, 0);
        // smells 1 and 2, or 0 and 0 by a fresh one
        SaltedGate least = told(";good a plain t by n age 0 weighs 1 worth 1;good b plain t by n age 0 weighs 2 worth 1;good c fresh t age 0 weighs 1 worth 1;hides a;hides b");
        EDGES.due(least, 0, "nearest", 0, 0, 0);
        EDGES.due(least, 0, "nearest", 0, 0, 3);
        EDGES.due(least, 1, "nearest", 0, 0, 4);
        least.eat(2);
        EDGES.due(least, 1, "nearest", 0, 0, 0);
        // alike on this day, the second one more on the next
        SaltedGate next = told(";good a plain t by n age 0 weighs 1 worth 1;good b plain t by n age 9 weighs 1 worth 1;hides a;hides b");
        EDGES.due(next, 0, "nearest", 0, 0, 0);
        EDGES.due(next, 1, "nearest", 0, 0, 1);
        EDGES.due(next, 0, "nearest", 0, 0, 10);
        SaltedGate last = Texts.told(Texts.SMALL + ";good a fresh t age 300 weighs 1 worth 1;hides a");
        EDGES.due(last, -2, "nearest", 0, 0, 0);
        EDGES.promise(19, "NONE: 1; 2.");
        refusalsOfCrossing("nearest");
    }

    private static void promise20() {
        EDGES.promise(20, "The gate (whatever hour) at which least is asked of a traveller, the first such.");
        SaltedGate x = told(CARRIED);
        EDGES.due(x, 2, "bestGate", 0, 0);
        EDGES.due(x, 2, "bestGate", 0, 9);
        EDGES.due(x, 0, "bestGate", 0, 10);
        EDGES.due(x, 0, "bestGate", 1, 60);
        SaltedGate y = told(";good a plain t by n age 79 weighs 2 worth 1;hides a");
        EDGES.due(y, 0, "bestGate", 0, 0);
        EDGES.due(y, 2, "bestGate", 0, 1);
        EDGES.due(y, 0, "bestGate", 0, 11);
        SaltedGate z = Texts.told(Texts.SMALL.replace("nose 12", "nose 1") + ";gate h nose 2 opens 3 shuts 3;gate k nose 2 opens 4 shuts 4"
                + ";means m rate 9 or 9 keeps 300;good a plain t by m age 10 weighs 1 worth 1;hides a");
        EDGES.due(z, 0, "bestGate", 0, 0);
        SaltedGate w = Texts.told(Texts.SMALL.replace("nose 12", "nose 1") + ";gate h nose 3 opens 3 shuts 3;gate k nose 3 opens 4 shuts 4"
                + ";means m rate 9 or 9 keeps 300;good a plain t by m age 10 weighs 1 worth 1;hides a");
        EDGES.due(w, 1, "bestGate", 0, 0);
        // by the rates, not the other ones: those would be 9 for 1, or 0 for 9
        SaltedGate dearer = told(";good a oath u by n age 100 weighs 1 worth 1;good b oath u by m age 10 weighs 9 worth 1;hides b");
        EDGES.due(dearer, 10 + 81, "asked", 1, 0, 0);
        EDGES.due(dearer, 10, "asked", 1, 2, 0);
        EDGES.due(dearer, 90, "otherLaw", 1, 2, 0);
        EDGES.due(dearer, 2, "bestGate", 1, 0);
        EDGES.due(told(";good a oath u by n age 200 weighs 1 worth 1;good b oath u by m age 10 weighs 9 worth 1;hides b"), 2, "bestGate", 1, 0);
        EDGES.due(told(";good a oath u by o age 10 weighs 1 worth 1"), 0, "bestGate", 1, 0);
        EDGES.due(Scenes.small(), 0, "bestGate", 0, 60);
        EDGES.promise(20, "NONE: 1; 2.");
        refusals("bestGate", 2, 4);
    }
}
