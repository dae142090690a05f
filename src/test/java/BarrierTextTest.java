/** Promises 1 to 5: a new object, feed, barrier, fault, where; and the FAULTS of Terms I. */
public final class BarrierTextTest {
    private static final Check CHECK = new Check();
    private static final String MEANS = ";means m rate 1 or 1 keeps 9";
    private static final String ALL = Texts.SMALL + MEANS;
    private static final String GOOD = ";good x fresh t age 1 weighs 1 worth 1";

    public static void main(String[] args) {
        newObject();
        feeding();
        numbers();
        tapeIsEmptied();
        theBarrierStays();
        aNewBarrierBeginsAnew();
        form();
        tokens();
        names();
        again();
        bounds();
        leastAndMost();
        many();
        lacks();
        faultAndWhere();
        CHECK.end();
    }

    private static void newObject() {
        SaltedGate x = new SaltedGate();
        CHECK.due("NONE", SaltedGate.NONE, -1);
        CHECK.due("trouble() of a new object", x.trouble(), 0);
        CHECK.due("fault() of a new object", x.fault(), 0);
        CHECK.due("where() of a new object", x.where(), -1);
        for (int what = 0; what <= 12; what++) {
            CHECK.due("size(" + what + ") of a new object", x.size(what), 0);
        }
        CHECK.refused(x, "good(0, 0)", x.good(0, 0), -1, 1);
        CHECK.refused(x, "bestGood()", x.bestGood(), -1, 1);
        CHECK.refused(x, "days(1)", x.days(1), -1, 1);
        CHECK.refused(x, "mark()", x.mark(), -1, 1);
        CHECK.refused(x, "back(0)", x.back(0), 1);
        CHECK.refused(x, "undo()", x.undo(), 6);
    }

    private static void feeding() {
        SaltedGate x = new SaltedGate();
        for (int i = 1; i <= 55; i++) {
            CHECK.due("feed " + i, x.feed(0x20202020, 0x20202020, 0x20202020, 0x20202020, -1), 20 * i);
        }
        CHECK.due("feed above 1,100", x.feed(0, 0, 0, 0, 0), -1);
        CHECK.due("size(12) then", x.size(12), 1100);
        CHECK.due("trouble(): feed tells no number", x.trouble(), 0);
        CHECK.due("barrier(1101)", x.barrier(1101), -1);
        CHECK.due("its trouble", x.trouble(), 2);
        CHECK.due("barrier(1100)", x.barrier(1100), -1);
        CHECK.due("the first 255 begins no TOKEN", x.where(), 16);

        SaltedGate y = new SaltedGate();
        y.feed(0x62617272, 0x69657220, 0x66656520, 0x31313120, 0x20202020);
        CHECK.due("the highest byte comes first", y.barrier(20), -1);
        CHECK.due("fault()", y.fault(), 4);
        CHECK.due("where()", y.where(), 12);
    }

    private static void numbers() {
        SaltedGate x = new SaltedGate();
        CHECK.refused(x, "barrier(-1)", x.barrier(-1), -1, 2);
        CHECK.refused(x, "barrier(1)", x.barrier(1), -1, 2);
        CHECK.refused(x, "barrier(least)", x.barrier(Integer.MIN_VALUE), -1, 2);
        Texts.feedAll(x, Texts.SMALL);
        int bytes = x.size(12);
        CHECK.refused(x, "barrier(too many)", x.barrier(bytes + 1), -1, 2);
        CHECK.due("THE TAPE stays", x.size(12), bytes);
        CHECK.due("barrier(all)", x.barrier(bytes), 0);
        CHECK.due("trouble()", x.trouble(), 0);
    }

    private static void tapeIsEmptied() {
        SaltedGate x = new SaltedGate();
        Texts.feedAll(x, Texts.SMALL + ";nonsense 99999 @@@@@@@@@@@@@@@@@@@@@@@@@@@@@@@@@@@@@@");
        CHECK.due("only the first bytes count", x.barrier(Texts.SMALL.length()), 0);
        CHECK.due("size(12)", x.size(12), 0);
        Texts.feedAll(x, "odd");
        CHECK.due("a fault", x.barrier(3), -1);
        CHECK.due("size(12) behind a fault", x.size(12), 0);
    }

    private static void theBarrierStays() {
        SaltedGate x = Texts.told(Texts.FULL);
        x.days(7);
        int mark = x.mark();
        CHECK.due("a bad text", Texts.tell(x, "barrier fee 9 interest 9;means q rate 9 or 9 keeps 1;odd"), -1);
        CHECK.due("trouble()", x.trouble(), 4);
        CHECK.due("size(0)", x.size(0), 2);
        CHECK.due("size(5)", x.size(5), 5);
        CHECK.due("size(9)", x.size(9), 7);
        CHECK.due("size(10)", x.size(10), 1);
        CHECK.due("back(mark)", x.back(mark), true);
        CHECK.due("duty(0, 0)", x.duty(0, 0), 2 * 2 * 4);
    }

    private static void aNewBarrierBeginsAnew() {
        SaltedGate x = Texts.told(Texts.FULL);
        x.days(20);
        x.eat(0);
        x.hide(3, false);
        x.cross(1, 0);
        x.mark();
        CHECK.due("told again", Texts.tell(x, Texts.FULL), 5);
        CHECK.due("day", x.size(9), 0);
        CHECK.due("ACTS", x.size(10), 0);
        CHECK.due("MARKS", x.size(11), 0);
        CHECK.due("HAS", x.traveller(1, 3), 24);
        CHECK.due("PAID", x.traveller(1, 2), 0);
        CHECK.due("hidden", x.good(3, 5), 1);
        CHECK.due("a smaller one", Texts.tell(x, Texts.SMALL), 0);
        for (int what = 2; what <= 12; what++) {
            CHECK.due("size(" + what + ")", x.size(what), what == 3 || what == 4 ? 1 : 0);
        }
        CHECK.due("a third one", Texts.tell(x, ALL + ";good z plain t by m age 1 weighs 2 worth 3"), 1);
        CHECK.due("no price of an earlier text", x.gain(0, 60), 0);
        CHECK.due("nothing hidden of an earlier text", x.good(0, 5), 0);
        CHECK.due("no goods of an earlier text", x.traveller(0, 3), 1);
    }

    private static void fault(String text, int fault, int where) {
        SaltedGate x = new SaltedGate();
        CHECK.refused(x, "barrier of '" + text + "'", Texts.tell(x, text), -1, 4);
        CHECK.due("fault() of '" + text + "'", x.fault(), fault);
        CHECK.due("where() of '" + text + "'", x.where(), where);
    }

    /** The FAULT is at the first byte of the last part. */
    private static void faultBehind(String text, String last, int fault) {
        fault(text + last, fault, text.length());
    }

    private static void fine(String text) {
        SaltedGate x = new SaltedGate();
        Texts.tell(x, text);
        CHECK.due("trouble() of '" + text + "'", x.trouble(), 0);
        CHECK.due("fault() of '" + text + "'", x.fault(), 0);
    }

    private static void form() {
        fault("", 1, 0);
        fault("    ", 1, 4);
        faultBehind("", "; barrier", 1);
        faultBehind("", "bar", 1);
        faultBehind("", "fresh", 1);
        faultBehind("", "7", 1);
        faultBehind("barrier ", "free 2", 1);
        faultBehind("barrier fee ", "x", 1);
        fault("barrier fee", 1, 11);
        fault("barrier fee   ", 1, 14);
        faultBehind("barrier fee 2 ", "; means m", 1);
        faultBehind("barrier fee 2 interest 10 ", "means", 1);
        faultBehind("barrier fee 2 interest 10 ", "10", 1);
        fault(Texts.SMALL + ";", 1, Texts.SMALL.length() + 1);
        fault(Texts.SMALL + ";  ", 1, Texts.SMALL.length() + 3);
        faultBehind(Texts.SMALL + ";", ";", 1);
        faultBehind(Texts.SMALL + ";means ", "9", 1);
        faultBehind(Texts.SMALL + ";means m rate 1 ", "keeps 3", 1);
        faultBehind(ALL + ";good x ", "odd", 1);
        faultBehind(ALL + ";good x ", "by", 1);
        faultBehind(ALL + ";good x fresh t ", "by m", 1);
        faultBehind(ALL + ";good x plain t ", "age 1", 1);
        faultBehind(ALL + ";good x plain ", "by m", 1);
        faultBehind(ALL + ";crosses t ", "day 1", 2);
        faultBehind(ALL + ";crosses t g ", "hour 1", 1);
        faultBehind(ALL + GOOD + " ", "hides x", 1);
    }

    private static void tokens() {
        fine("  barrier   fee 2 interest 010 ; traveller abcdefghi allow 007 hunger 1;gate g nose 12 opens 8 shuts 18  ");
        fine("barrier fee2interest10;traveller t allow1hunger1;gate g nose12opens8shuts18");
        faultBehind(Texts.HEAD + ";traveller ", "abcdefghij allow 1 hunger 1", 1);
        faultBehind("barrier fee ", "0002", 1);
        faultBehind("barrier fee 2 interest 10;", "Means", 1);
        faultBehind("barrier fee 2 interest 10;means m", "_", 1);
        faultBehind("barrier fee 2", "\tinterest 10", 1);
        faultBehind("barrier fee 2 interest 10", "\n", 1);
        faultBehind("barrier fee 2 interest ", "-1", 1);
        faultBehind("barrier fee 2 interest 10;means m", "" + (char) 225, 1);
        faultBehind("", "barriers fee 2", 1);
        faultBehind("", "barrie fee 2", 1);
    }

    private static void names() {
        String[] never = {"barrier", "means", "traveller", "gate", "good", "hides", "crosses", "price",
            "crumb", "fresh", "by"};
        for (String name : never) {
            faultBehind(Texts.SMALL + ";means ", name, 1);
            faultBehind(Texts.SMALL + ";traveller ", name, 1);
            faultBehind(ALL + ";crumb ", name, 1);
        }
        String[] fine = {"fee", "interest", "rate", "or", "keeps", "allow", "hunger", "nose", "opens",
            "shuts", "age", "weighs", "worth", "plain", "wine", "old", "oath", "day", "hour", "here", "there"};
        for (String name : fine) {
            fine(Texts.SMALL + ";means " + name + " rate 1 or 1 keeps 9;crumb " + name + " day 0");
        }
        faultBehind(ALL + ";good x fresh ", "v", 2);
        faultBehind(ALL + ";good x fresh ", "m", 2);
        faultBehind(ALL + ";good x fresh ", "x", 2);
        faultBehind(ALL + ";good x plain t by ", "t", 2);
        faultBehind(ALL + ";good x plain t by ", "n", 2);
        faultBehind(ALL + ";hides ", "x", 2);
        faultBehind(ALL + GOOD + ";hides ", "m", 2);
        faultBehind(ALL + ";crosses ", "g", 2);
        faultBehind(ALL + ";crosses t ", "t", 2);
        faultBehind(ALL + ";price ", "g", 2);
        faultBehind(ALL + ";price ", "mm", 2);
        faultBehind(ALL + ";crumb ", "t", 2);
        faultBehind(Texts.SMALL + ";crumb ", "m day 1" + MEANS, 2);
    }

    private static void again() {
        for (String name : new String[] {"t", "g", "m", "x"}) {
            faultBehind(ALL + GOOD + ";means ", name, 3);
            faultBehind(ALL + GOOD + ";traveller ", name, 3);
            faultBehind(ALL + GOOD + ";gate ", name, 3);
            faultBehind(ALL + GOOD + ";good ", name, 3);
        }
        faultBehind(ALL + GOOD + ";hides x;hides ", "x", 3);
        faultBehind(ALL + ";price m here 1 there 2;price ", "m", 3);
        faultBehind(ALL + ";", "barrier", 3);
        faultBehind(Texts.HEAD + ";", "barrier fee 99", 3);
    }

    private static void bounds() {
        faultBehind("barrier fee ", "10 interest 99", 4);
        faultBehind("barrier fee 9 interest ", "51", 4);
        faultBehind(Texts.SMALL + ";means m rate ", "10", 4);
        faultBehind(Texts.SMALL + ";means m rate 9 or ", "10", 4);
        faultBehind(Texts.SMALL + ";means m rate 9 or 9 keeps ", "0", 4);
        faultBehind(Texts.SMALL + ";means m rate 9 or 9 keeps ", "301", 4);
        faultBehind(Texts.SMALL + ";traveller v allow ", "100", 4);
        faultBehind(Texts.SMALL + ";traveller v allow 99 hunger ", "4", 4);
        faultBehind(Texts.SMALL + ";gate k nose ", "0", 4);
        faultBehind(Texts.SMALL + ";gate k nose ", "100", 4);
        faultBehind(Texts.SMALL + ";gate k nose 99 opens ", "24", 4);
        faultBehind(Texts.SMALL + ";gate k nose 99 opens 9 shuts ", "8", 4);
        faultBehind(Texts.SMALL + ";gate k nose 99 opens 9 shuts ", "24", 4);
        faultBehind(ALL + ";good x fresh t age ", "301", 4);
        faultBehind(ALL + ";good x fresh t age 300 weighs ", "0", 4);
        faultBehind(ALL + ";good x fresh t age 300 weighs ", "10", 4);
        faultBehind(ALL + ";good x wine t by m age 300 weighs 9 worth ", "100", 4);
        faultBehind(ALL + ";crosses t g day ", "61", 4);
        faultBehind(ALL + ";crosses t g day 60 hour ", "24", 4);
        faultBehind(ALL + ";crosses t g day 7 hour 1;crosses t g day ", "6", 4);
        faultBehind(ALL + ";price m here ", "100", 4);
        faultBehind(ALL + ";price m here 99 there ", "100", 4);
        faultBehind(ALL + ";crumb m day ", "61", 4);
    }

    private static void leastAndMost() {
        fine("barrier fee 0 interest 0;means m rate 0 or 0 keeps 1;traveller t allow 0 hunger 0"
                + ";gate g nose 1 opens 0 shuts 0;good x plain t by m age 0 weighs 1 worth 0"
                + ";crosses t g day 0 hour 0;price m here 0 there 0;crumb m day 0");
        fine("barrier fee 9 interest 50;means m rate 9 or 9 keeps 300;traveller t allow 99 hunger 3"
                + ";gate g nose 99 opens 23 shuts 23;good x oath t by m age 300 weighs 9 worth 99"
                + ";crosses t g day 60 hour 23;crosses t g day 60 hour 0;price m here 99 there 99;crumb m day 60");
    }

    private static String lines(String line, int many) {
        StringBuilder text = new StringBuilder();
        for (int i = 0; i < many; i++) {
            text.append(';').append(line.replace('#', (char) ('n' + i)));
        }
        return text.toString();
    }

    private static void many() {
        String small = Texts.HEAD + ";traveller t allow 1 hunger 1;gate g nose 5 opens 9 shuts 12;means m rate 1 or 1 keeps 9";
        manyOf(small, "means a# rate 1 or 1 keeps 1", 3);
        manyOf(small, "traveller a# allow 1 hunger 1", 3);
        manyOf(small, "gate a# nose 1 opens 1 shuts 1", 2);
        manyOf(small, "good a# fresh t age 0 weighs 1 worth 1", 8);
        manyOf(small, "crosses t g day 1 hour 1", 6);
        manyOf(small, "crumb m day 1", 5);
        String goods = small + lines("good a# fresh t age 0 weighs 1 worth 1", 8) + lines("hides a#", 8);
        fine(goods);
        faultBehind(goods + ";hides ", "an", 3);
    }

    private static void manyOf(String text, String line, int room) {
        fine(text + lines(line, room));
        String word = line.substring(0, line.indexOf(' '));
        faultBehind(text + lines(line, room) + ";", word, 5);
        faultBehind(text + lines(line, room) + "; ", word + " m m m 999", 5);
    }

    private static void lacks() {
        for (String word : new String[] {"means", "traveller", "gate", "good", "hides", "crosses", "price", "crumb"}) {
            faultBehind("", word, 6);
            faultBehind("  ", word + " odd odd;" + Texts.SMALL, 6);
        }
        fault(Texts.HEAD, 6, Texts.HEAD.length());
        String noGate = Texts.HEAD + ";traveller t allow 1 hunger 1";
        fault(noGate, 6, noGate.length());
        String noTraveller = Texts.HEAD + ";gate g nose 5 opens 9 shuts 12  ";
        fault(noTraveller, 6, noTraveller.length());
        fault(Texts.HEAD + ";", 1, Texts.HEAD.length() + 1);
        fine(Texts.HEAD + ";gate g nose 5 opens 9 shuts 12;traveller t allow 1 hunger 1");
    }

    private static void faultAndWhere() {
        SaltedGate x = new SaltedGate();
        Texts.tell(x, "odd");
        CHECK.due("where()", x.where(), 0);
        CHECK.due("where() again", x.where(), 0);
        x.feed(0, 0, 0, 0, 0);
        x.size(0);
        x.fault();
        CHECK.due("where() behind calls that can't be refused", x.where(), 0);
        CHECK.due("trouble() too", x.trouble(), 4);
        x.barrier(999);
        CHECK.due("where() behind a refusal by 2", x.where(), -1);
        CHECK.due("fault() behind a refusal by 2", x.fault(), 1);
        x.barrier(3);
        CHECK.due("the bytes are 0", x.fault(), 1);
        Texts.tell(x, Texts.SMALL);
        CHECK.due("fault() of a right one", x.fault(), 0);
        CHECK.due("where() of a right one", x.where(), -1);
        Texts.tell(x, Texts.SMALL + ";odd");
        CHECK.due("where()", x.where(), Texts.SMALL.length() + 1);
        x.gate(0, 0);
        CHECK.due("where() behind a call that isn't refused", x.where(), -1);
        CHECK.due("fault() stays", x.fault(), 1);
    }
}
