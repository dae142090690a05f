/** Promises 6 to 8: good, traveller, gate. */
public final class NowTest {
    private static final Check CHECK = new Check();

    public static void main(String[] args) {
        goods();
        travellers();
        gates();
        wrong();
        CHECK.end();
    }

    private static void row(SaltedGate x, int g, int... want) {
        for (int what = 0; what < want.length; what++) {
            CHECK.due("good(" + g + ", " + what + ")", x.good(g, what), want[what]);
        }
    }

    private static void goods() {
        SaltedGate x = Texts.told(Texts.FULL);
        row(x, 0, 1, 0, 0, 2, 0, 0);
        row(x, 1, 2, 1, 0, 3, 0, 1);
        row(x, 2, 0, -2, 0, 4, 0, 0);
        row(x, 3, 3, 0, 1, 1, 0, 1);
        row(x, 4, 4, 1, 1, 2, 0, 0);
        x.eat(0);
        CHECK.due("eaten", x.good(0, 4), 1);
        x.cross(1, 0);
        CHECK.due("seized", x.good(3, 4), 3);
        CHECK.due("over", x.good(4, 4), 2);
        CHECK.due("it stays hidden", x.good(3, 5), 1);
        x.hide(1, false);
        CHECK.due("shown", x.good(1, 5), 0);
    }

    private static void travellers() {
        SaltedGate x = Texts.told(Texts.FULL);
        CHECK.due("allowed", x.traveller(0, 0), 10);
        CHECK.due("allowed", x.traveller(1, 0), 0);
        CHECK.due("hunger", x.traveller(1, 1), 2);
        CHECK.due("PAID", x.traveller(1, 2), 0);
        CHECK.due("HAS", x.traveller(1, 3), 24);
        x.eat(4);
        CHECK.due("hunger left", x.traveller(1, 1), 1);
        CHECK.due("the other's hunger", x.traveller(0, 1), 1);
        CHECK.due("HAS", x.traveller(1, 3), 8);
        x.cross(1, 0);
        CHECK.due("PAID", x.traveller(1, 2), 36);
        CHECK.due("the other's PAID", x.traveller(0, 2), 0);
        CHECK.due("HAS", x.traveller(1, 3), 0);
        CHECK.due("HAS, the other", x.traveller(0, 3), 7);
    }

    private static void gates() {
        SaltedGate x = Texts.told(Texts.FULL);
        CHECK.due("nose", x.gate(0, 0), 12);
        CHECK.due("opens", x.gate(0, 1), 8);
        CHECK.due("shuts", x.gate(0, 2), 18);
        CHECK.due("nose", x.gate(1, 0), 30);
        CHECK.due("opens", x.gate(1, 1), 0);
        CHECK.due("shuts", x.gate(1, 2), 23);
        CHECK.due("trouble()", x.trouble(), 0);
    }

    private static void wrong() {
        SaltedGate x = Texts.told(Texts.FULL);
        int[] odd = {-1, 5, 31, 32, Integer.MAX_VALUE, Integer.MIN_VALUE};
        for (int n : odd) {
            CHECK.refused(x, "good(" + n + ", 0)", x.good(n, 0), -1, 1);
            CHECK.refused(x, "traveller(" + n + ", 0)", x.traveller(n, 0), -1, 1);
            CHECK.refused(x, "gate(" + n + ", 0)", x.gate(n, 0), -1, 1);
            CHECK.refused(x, "traveller(0, " + n + ")", x.traveller(0, n), -1, 1);
            CHECK.refused(x, "gate(0, " + n + ")", x.gate(0, n), -1, 1);
        }
        CHECK.refused(x, "good(0, 6)", x.good(0, 6), -1, 1);
        CHECK.refused(x, "good(0, -1)", x.good(0, -1), -1, 1);
        CHECK.refused(x, "traveller(0, 4)", x.traveller(0, 4), -1, 1);
        CHECK.refused(x, "gate(0, 3)", x.gate(0, 3), -1, 1);
        CHECK.refused(x, "traveller(2, 0)", x.traveller(2, 0), -1, 1);
        CHECK.refused(x, "gate(2, 0)", x.gate(2, 0), -1, 1);
    }
}
