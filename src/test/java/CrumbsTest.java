/** Promises 36 to 39: crumbs, sums. */
public final class CrumbsTest {
    private static final Check CHECK = new Check();
    private static final String HEAD = "barrier fee 1 interest 5;means m rate 3 or 2 keeps 50"
            + ";means n rate 1 or 9 keeps 300;means o rate 1 or 1 keeps 9"
            + ";traveller t allow 20 hunger 3;traveller u allow 0 hunger 2;traveller v allow 0 hunger 2"
            + ";traveller w allow 0 hunger 2;gate g nose 10 opens 8 shuts 18"
            + ";good a plain t by m age 40 weighs 1 worth 1;good b plain u by m age 20 weighs 1 worth 1"
            + ";good c wine u by n age 0 weighs 1 worth 1;good d old v by n age 0 weighs 1 worth 1"
            + ";good e oath w by o age 300 weighs 1 worth 1;good f fresh t age 0 weighs 1 worth 1";

    public static void main(String[] args) {
        rows();
        oneDay();
        noRows();
        asTold();
        wrong();
        owed();
        owedWrong();
        CHECK.end();
    }

    private static void all(String crumbs, int fits, int[] could, int[] surely) {
        SaltedGate x = Texts.told(HEAD + crumbs);
        CHECK.due("fits() of " + crumbs, x.fits(), fits);
        for (int c = 0; c < could.length; c++) {
            CHECK.due("could(" + c + ") of " + crumbs, x.could(c), could[c]);
            CHECK.due("surely(" + c + ") of " + crumbs, x.surely(c), surely[c]);
            CHECK.due("trouble()", x.trouble(), 0);
        }
    }

    private static void rows() {
        all(";crumb m day 10", 2, new int[] {3}, new int[] {-2});
        all(";crumb m day 11", 1, new int[] {2}, new int[] {1});
        all(";crumb m day 30", 1, new int[] {2}, new int[] {1});
        all(";crumb m day 1;crumb m day 2", 4, new int[] {3, 3}, new int[] {-2, -2});
        all(";crumb o day 60", 1, new int[] {8}, new int[] {3});
        all(";crumb n day 1;crumb o day 1;crumb m day 2;crumb m day 3;crumb n day 4", 16,
                new int[] {6, 8, 3, 3, 6}, new int[] {-2, 3, -2, -2, -2});
    }

    private static void oneDay() {
        all(";crumb m day 1;crumb m day 1", 2, new int[] {3, 3}, new int[] {-2, -2});
        all(";crumb m day 1;crumb n day 1", 3, new int[] {3, 6}, new int[] {-2, -2});
        all(";crumb n day 1;crumb n day 1;crumb m day 1", 2, new int[] {6, 6, 1}, new int[] {-2, -2, 0});
        all(";crumb m day 20;crumb n day 20", 1, new int[] {2, 4}, new int[] {1, 2});
        all(";crumb n day 20;crumb m day 3;crumb m day 20", 2, new int[] {4, 3, 2}, new int[] {2, -2, 1});
    }

    private static void noRows() {
        all(";crumb m day 31", 0, new int[] {0}, new int[] {-2});
        all(";crumb o day 1;crumb o day 1", 0, new int[] {0, 0}, new int[] {-2, -2});
        all(";crumb m day 1;crumb m day 1;crumb m day 1;crumb n day 9", 0, new int[] {0, 0, 0, 0},
                new int[] {-2, -2, -2, -2});
    }

    private static void asTold() {
        SaltedGate x = Texts.told(HEAD + ";crumb m day 10;crumb n day 5");
        x.eat(0);
        x.cross(1, 0);
        x.days(60);
        CHECK.due("fits()", x.fits(), 4);
        CHECK.due("could(0)", x.could(0), 3);
        CHECK.due("could(1)", x.could(1), 6);
    }

    private static void wrong() {
        SaltedGate none = new SaltedGate();
        CHECK.refused(none, "fits()", none.fits(), -1, 1);
        CHECK.refused(none, "could(0)", none.could(0), -1, 1);
        CHECK.refused(none, "surely(0)", none.surely(0), -1, 1);
        SaltedGate x = Texts.told(HEAD);
        CHECK.refused(x, "fits()", x.fits(), -1, 6);
        CHECK.refused(x, "could(0)", x.could(0), -1, 1);
        SaltedGate y = Texts.told(HEAD + ";crumb m day 1;crumb m day 1");
        for (int n : new int[] {-1, 2, 5, Integer.MAX_VALUE, Integer.MIN_VALUE}) {
            CHECK.refused(y, "could(" + n + ")", y.could(n), -1, 1);
            CHECK.refused(y, "surely(" + n + ")", y.surely(n), -1, 1);
        }
    }

    private static void sum(int interest, int sum, int tens, long above, long below) {
        SaltedGate x = Texts.told(Texts.SMALL.replace("interest 10", "interest " + interest));
        String call = "owed(" + sum + ", " + tens + ") at " + interest;
        CHECK.due(call, x.owed(sum, tens, false), above);
        CHECK.due(call + ", lower", x.owed(sum, tens, true), below);
        CHECK.due("trouble()", x.trouble(), 0);
    }

    private static void owed() {
        sum(10, 1, 0, 1, 1);
        sum(10, 1, 1, 11, 10);
        sum(10, 1, 5, 161051, 100000);
        sum(10, 10, 1, 11, 1);
        sum(10, 0, 5, 0, 1);
        sum(10, 0, 0, 0, 1);
        sum(0, 999, 5, 999, 1);
        sum(50, 999, 5, 999L * 243, 32);
        sum(50, 32, 5, 243, 1);
        sum(7, 999, 5, 999L * 107 * 107 * 107 * 107 * 107, 10000000000L);
        sum(49, 1, 5, 149L * 149 * 149 * 149 * 149, 10000000000L);
        sum(5, 100, 2, 441, 4);
    }

    private static void owedWrong() {
        SaltedGate x = Texts.told(Texts.SMALL);
        CHECK.refused(x, "owed(-1, 0)", x.owed(-1, 0, true), -1, 2);
        CHECK.refused(x, "owed(1000, 0)", x.owed(1000, 0, false), -1, 2);
        CHECK.refused(x, "owed(1, -1)", x.owed(1, -1, true), -1, 2);
        CHECK.refused(x, "owed(1, 6)", x.owed(1, 6, false), -1, 2);
        SaltedGate none = new SaltedGate();
        CHECK.refused(none, "owed(-1, -1)", none.owed(-1, -1, true), -1, 1);
    }
}
