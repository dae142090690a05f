/** Promises 42 to 48: acts, undoing, marks. */
public final class ActsTest {
    private static final Check CHECK = new Check();

    public static void main(String[] args) {
        eating();
        hiding();
        crossing();
        goingBy();
        undoing();
        sixteenAreKept();
        refusedActsAreNotKept();
        marking();
        withoutBarrier();
        CHECK.end();
    }

    private static SaltedGate told() {
        return Texts.told(Texts.FULL);
    }

    private static void eating() {
        SaltedGate x = told();
        CHECK.due("eat(0)", x.eat(0), true);
        CHECK.due("trouble()", x.trouble(), 0);
        CHECK.refused(x, "eat(0) again", x.eat(0), 5);
        CHECK.refused(x, "eat(1): t's hunger is over", x.eat(1), 5);
        CHECK.due("eat(3)", x.eat(3), true);
        CHECK.due("eat(4)", x.eat(4), true);
        for (int n : new int[] {-1, 5, 32, 64, Integer.MAX_VALUE, Integer.MIN_VALUE}) {
            CHECK.refused(x, "eat(" + n + ")", x.eat(n), 1);
        }
        SaltedGate y = told();
        y.cross(0, 0);
        CHECK.refused(y, "eat(0): it is over", y.eat(0), 5);
        y.cross(1, 0);
        CHECK.refused(y, "eat(3): it is seized", y.eat(3), 5);
        CHECK.due("hunger stays", y.traveller(1, 1), 2);
        SaltedGate z = Texts.told(Texts.SMALL.replace("hunger 1", "hunger 0") + ";good x fresh t age 9 weighs 1 worth 1");
        CHECK.refused(z, "eat(0): no hunger", z.eat(0), 5);
    }

    private static void hiding() {
        SaltedGate x = told();
        CHECK.refused(x, "hide(1, true)", x.hide(1, true), 5);
        CHECK.refused(x, "hide(0, false)", x.hide(0, false), 5);
        CHECK.due("hide(0, true)", x.hide(0, true), true);
        CHECK.due("trouble()", x.trouble(), 0);
        CHECK.due("good(0, 5)", x.good(0, 5), 1);
        CHECK.due("hide(1, false)", x.hide(1, false), true);
        CHECK.due("asked: b is shown, a hidden", x.asked(0, 0, 0), 18 - 10);
        CHECK.due("hide(0, false)", x.hide(0, false), true);
        CHECK.due("asked: both are shown", x.asked(0, 0, 0), 30 - 10);
        x.eat(0);
        CHECK.refused(x, "hide(0, true): eaten", x.hide(0, true), 5);
        for (int n : new int[] {-1, 5, 32, Integer.MAX_VALUE, Integer.MIN_VALUE}) {
            CHECK.refused(x, "hide(" + n + ", true)", x.hide(n, true), 1);
            CHECK.refused(x, "hide(" + n + ", false)", x.hide(n, false), 1);
        }
        x.cross(1, 0);
        CHECK.refused(x, "hide(3, false): seized", x.hide(3, false), 5);
        CHECK.refused(x, "hide(4, true): over", x.hide(4, true), 5);
    }

    private static void crossing() {
        SaltedGate x = told();
        CHECK.due("cross(1, 0)", x.cross(1, 0), 90);
        CHECK.due("trouble()", x.trouble(), 0);
        CHECK.due("d is seized", x.good(3, 4), 3);
        CHECK.due("e is over", x.good(4, 4), 2);
        CHECK.due("PAID", x.traveller(1, 2), 90);
        CHECK.refused(x, "cross(1, 0) again", x.cross(1, 0), -1, 5);
        x.days(5);
        CHECK.due("on day 5", x.cross(0, 0), 6);
        CHECK.due("hidden, and over", x.good(1, 4), 2);
        CHECK.due("PAID", x.traveller(0, 2), 6);
        for (int n : new int[] {-1, 2, Integer.MAX_VALUE, Integer.MIN_VALUE}) {
            CHECK.refused(x, "cross(" + n + ", 0)", x.cross(n, 0), -1, 1);
            CHECK.refused(x, "cross(0, " + n + ")", x.cross(0, n), -1, 1);
        }
    }

    private static void goingBy() {
        SaltedGate x = told();
        CHECK.due("days(1)", x.days(1), 1);
        CHECK.due("days(60)", x.days(60), 61);
        CHECK.refused(x, "days(0)", x.days(0), -1, 2);
        CHECK.refused(x, "days(61)", x.days(61), -1, 2);
        CHECK.refused(x, "days(-1)", x.days(-1), -1, 2);
        CHECK.refused(x, "days(most)", x.days(Integer.MAX_VALUE), -1, 2);
        x.days(60);
        x.days(60);
        x.days(60);
        CHECK.due("day", x.size(9), 241);
        CHECK.refused(x, "days(60) above 300", x.days(60), -1, 3);
        CHECK.refused(x, "days(61) above 300", x.days(61), -1, 2);
        CHECK.due("days(59)", x.days(59), 300);
        CHECK.refused(x, "days(1) above 300", x.days(1), -1, 3);
        CHECK.due("age(0, 60)", x.age(0, 60), 395);
        CHECK.due("eat(0) on day 300", x.eat(0), true);
    }

    private static String all(SaltedGate x) {
        StringBuilder state = new StringBuilder();
        for (int g = 0; g < 5; g++) {
            state.append(x.good(g, 4)).append(x.good(g, 5));
        }
        for (int t = 0; t < 2; t++) {
            state.append(' ').append(x.traveller(t, 1)).append(' ').append(x.traveller(t, 2));
            state.append(' ').append(x.traveller(t, 3));
        }
        return state.append(' ').append(x.size(9)).toString();
    }

    private static void same(String call, String got, String want) {
        CHECK.due(call + ": " + got + " for " + want, got.equals(want), true);
    }

    private static void undoing() {
        SaltedGate x = told();
        CHECK.refused(x, "undo()", x.undo(), 6);
        String zero = all(x);
        x.eat(0);
        String one = all(x);
        x.hide(3, false);
        String two = all(x);
        x.days(9);
        String three = all(x);
        x.cross(1, 0);
        CHECK.due("size(10)", x.size(10), 4);
        CHECK.due("undo()", x.undo(), true);
        CHECK.due("trouble()", x.trouble(), 0);
        same("cross", all(x), three);
        x.undo();
        same("days", all(x), two);
        x.undo();
        same("hide", all(x), one);
        CHECK.due("size(10)", x.size(10), 1);
        x.undo();
        same("eat", all(x), zero);
        CHECK.refused(x, "undo()", x.undo(), 6);
        CHECK.due("t's hunger is back", x.eat(2), true);
    }

    private static void sixteenAreKept() {
        SaltedGate x = told();
        for (int i = 1; i <= 40; i++) {
            x.days(1);
            CHECK.due("size(10)", x.size(10), Math.min(i, 16));
        }
        for (int i = 1; i <= 16; i++) {
            CHECK.due("undo()", x.undo(), true);
            CHECK.due("day", x.size(9), 40 - i);
        }
        CHECK.refused(x, "undo()", x.undo(), 6);
        CHECK.due("day", x.size(9), 24);
        x.days(3);
        x.undo();
        CHECK.due("day", x.size(9), 24);
    }

    private static void refusedActsAreNotKept() {
        SaltedGate x = told();
        x.eat(9);
        x.eat(0);
        x.eat(0);
        x.eat(1);
        x.hide(1, true);
        x.hide(9, true);
        x.cross(9, 0);
        x.days(0);
        x.days(61);
        CHECK.due("size(10)", x.size(10), 1);
        x.asked(0, 0, 0);
        x.season(3);
        x.mark();
        CHECK.due("size(10)", x.size(10), 1);
    }

    private static void marking() {
        SaltedGate x = told();
        String zero = all(x);
        CHECK.due("mark()", x.mark(), 0);
        x.days(5);
        x.cross(1, 0);
        String one = all(x);
        CHECK.due("mark()", x.mark(), 1);
        CHECK.due("size(10): a MARK is no ACT", x.size(10), 2);
        x.eat(0);
        CHECK.due("mark()", x.mark(), 2);
        CHECK.refused(x, "mark() again", x.mark(), -1, 3);
        CHECK.due("size(11)", x.size(11), 3);
        CHECK.due("back(0)", x.back(0), true);
        CHECK.due("trouble()", x.trouble(), 0);
        same("back(0)", all(x), zero);
        CHECK.refused(x, "undo()", x.undo(), 6);
        CHECK.due("size(10)", x.size(10), 0);
        CHECK.due("all MARKS stay", x.size(11), 3);
        x.eat(2);
        x.undo();
        x.hide(0, true);
        CHECK.due("back(1)", x.back(1), true);
        same("back(1)", all(x), one);
        x.days(7);
        x.back(1);
        same("back(1) again", all(x), one);
        for (int n : new int[] {-1, 3, Integer.MAX_VALUE, Integer.MIN_VALUE}) {
            CHECK.refused(x, "back(" + n + ")", x.back(n), 1);
        }
        same("nothing by a wrong one", all(x), one);
        SaltedGate y = told();
        y.mark();
        CHECK.refused(y, "back(1)", y.back(1), 1);
        y.days(1);
        CHECK.refused(y, "back(1)", y.back(1), 1);
        CHECK.due("a wrong one leaves what can be undone", y.undo(), true);
    }

    private static void withoutBarrier() {
        SaltedGate x = new SaltedGate();
        CHECK.refused(x, "eat(0)", x.eat(0), 1);
        CHECK.refused(x, "hide(0, true)", x.hide(0, true), 1);
        CHECK.refused(x, "cross(0, 0)", x.cross(0, 0), -1, 1);
        CHECK.refused(x, "days(0)", x.days(0), -1, 1);
        CHECK.refused(x, "undo()", x.undo(), 6);
        CHECK.refused(x, "mark()", x.mark(), -1, 1);
        CHECK.refused(x, "back(0)", x.back(0), 1);
    }
}
