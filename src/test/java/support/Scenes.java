/** Objects at a point of a run, made anew by each call, so that two of them can be set side by side. */
final class Scenes {
    /** As many rows of each kind as there is room for. */
    static final String FULLEST = "barrier fee 9 interest 50"
            + ";means m rate 1 or 9 keeps 300;means n rate 9 or 0 keeps 1;means o rate 3 or 3 keeps 50"
            + ";means p rate 0 or 1 keeps 99"
            + ";traveller t allow 0 hunger 0;traveller u allow 99 hunger 3;traveller v allow 10 hunger 1"
            + ";traveller w allow 5 hunger 2"
            + ";gate g nose 1 opens 0 shuts 23;gate h nose 99 opens 23 shuts 23;gate k nose 20 opens 8 shuts 18"
            + ";good a fresh t age 0 weighs 1 worth 9;good b plain t by m age 35 weighs 2 worth 20"
            + ";good c wine u by o age 20 weighs 3 worth 30;good d old u by m age 60 weighs 9 worth 5"
            + ";good e oath v by n age 90 weighs 2 worth 7;good f plain w by p age 99 weighs 4 worth 99"
            + ";good i plain w by m age 300 weighs 5 worth 1;good j fresh w age 3 weighs 9 worth 0"
            + ";hides a;hides b;hides c;hides d;hides e;hides f;hides i;hides j"
            + ";crosses t g day 0 hour 0;crosses u h day 0 hour 22;crosses u h day 1 hour 23;crosses v k day 9 hour 7"
            + ";crosses v k day 60 hour 18;crosses w k day 60 hour 8"
            + ";price m here 3 there 10;price n here 0 there 99;price o here 99 there 0;price p here 1 there 1"
            + ";crumb m day 0;crumb m day 0;crumb n day 60;crumb o day 30;crumb p day 0";

    private Scenes() {
    }

    static SaltedGate without() {
        return new SaltedGate();
    }

    /** A BARRIER without means, goods, crossings, prices or crumbs. */
    static SaltedGate small() {
        return Texts.told(Texts.SMALL);
    }

    /** In the midst of a run: a day gone by, ACTS that can be undone, a MARK, a byte on THE TAPE. */
    static SaltedGate midst() {
        SaltedGate x = Texts.told(Texts.FULL);
        x.days(4);
        x.mark();
        x.hide(0, true);
        x.eat(4);
        x.cross(1, 0);
        x.days(2);
        Texts.feedAll(x, "barrier fee 9");
        return x;
    }

    static SaltedGate fullest() {
        return Texts.told(Texts.tight(FULLEST));
    }

    /** The last day that there is, all MARKS set, and as many ACTS kept as can be. */
    static SaltedGate late() {
        SaltedGate x = fullest();
        x.mark();
        for (int i = 0; i < 5; i++) {
            x.days(50);
        }
        x.mark();
        x.eat(2);
        x.eat(5);
        for (int i = 0; i < 10; i++) {
            x.days(5);
        }
        x.mark();
        return x;
    }
}
