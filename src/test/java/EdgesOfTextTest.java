import java.util.function.ToLongFunction;

/** Terms I: the text of a BARRIER and its FAULTS, at the edges that each sentence names. */
public final class EdgesOfTextTest {
    private static final Edges EDGES = new Edges("Terms I");
    private static final String HEAD = "barrier fee 2 interest 10";
    private static final String MEANS = ";means m rate 1 or 1 keeps 9";
    private static final String TRAVELLER = ";traveller t allow 0 hunger 1";
    private static final String GATE = ";gate g nose 99 opens 0 shuts 23";
    private static final String ALL = HEAD + MEANS + TRAVELLER + GATE;
    private static final String GOOD = ";good x fresh t age 1 weighs 1 worth 1";

    public static void main(String[] args) {
        theTape();
        blanks();
        words();
        wholes();
        lines();
        barrierLine();
        meansLine();
        travellerLine();
        gateLine();
        goodLine();
        kinds();
        hidesLine();
        crossesLine();
        priceLine();
        crumbLine();
        names();
        theFirstFault();
        faultOne();
        faultTwo();
        faultThree();
        faultFour();
        faultFive();
        faultSix();
        EDGES.end();
    }

    private static void taken(String text) {
        SaltedGate x = new SaltedGate();
        Texts.tell(x, text);
        EDGES.same("trouble() of '" + text + "'", x.trouble(), 0);
        EDGES.same("fault() of '" + text + "'", x.fault(), 0);
        EDGES.same("where() of '" + text + "'", x.where(), -1);
    }

    private static void faulty(String text, int fault, int where) {
        SaltedGate x = new SaltedGate();
        EDGES.same("barrier() of '" + text + "'", Texts.tell(x, text), -1);
        EDGES.same("trouble() of '" + text + "'", x.trouble(), 4);
        EDGES.same("fault() of '" + text + "'", x.fault(), fault);
        EDGES.same("where() of '" + text + "'", x.where(), where);
    }

    /** The FAULT is at the first byte of the last part. */
    private static void faultyAt(String text, String last, int fault) {
        faulty(text + last, fault, text.length());
    }

    /** A WHOLE on both sides of its bounds; what is told by it must be what was written. */
    private static void whole(String ahead, int least, int most, String behind, ToLongFunction<SaltedGate> told) {
        for (int number : new int[] {least, most}) {
            String text = ahead + number + behind;
            taken(text);
            EDGES.same("what is told by '" + text + "'", told.applyAsLong(Texts.told(text)), number);
        }
        if (least > 0) {
            faultyAt(ahead, (least - 1) + behind, 4);
        }
        faultyAt(ahead, (most + 1) + behind, 4);
        faultyAt(ahead, "999" + behind, 4);
    }

    private static void theTape() {
        EDGES.terms("I", "I. THE TEXT of a BARRIER (THE TAPE has 1,100 bytes;");
        String text = ALL + GOOD;
        String full = text + " ".repeat(1100 - text.length() - 8) + ";hides x";
        taken(full);
        EDGES.same("the last of 1,100 bytes is read", Texts.told(full).good(0, 5), 1);
        faultyAt(full.substring(0, 1099), "y", 2);
        faultyAt(full.substring(0, 1098) + " ", "@", 1);
        SaltedGate x = new SaltedGate();
        Texts.feedAll(x, full);
        EDGES.due(x, -1, "feed", 0, 0, 0, 0, 0);
        EDGES.due(x, 1100, "size", 12);
        EDGES.due(x, 1, "barrier", 1100);
    }

    /** Each byte where a blank may stand: behind a WHOLE, ahead of the ; of the next LINE. */
    private static void blanks() {
        EDGES.terms("I", "blanks, 32, part TOKENS and mean nothing else;");
        String rest = ";means m rate 1 or 1 keeps 9" + TRAVELLER + GATE;
        for (int sign = 0; sign < 256; sign++) {
            String text = HEAD + (char) sign + rest;
            if (sign == ' ') {
                taken(text);
            } else if (sign >= '0' && sign <= '9') {
                faulty(text, 4, HEAD.length() - 2);
            } else if (sign == ';') {
                faulty(text, 1, HEAD.length() + 1);
            } else {
                faulty(text, 1, HEAD.length());
            }
        }
        taken(" " + ALL);
        taken(ALL + "   ");
        taken(ALL.replace(" ", "   ").replace(";", "  ;  "));
        taken(Texts.tight(ALL));
        faultyAt("", "barrierfee 2 interest 10" + TRAVELLER + GATE, 1);
        faultyAt("barrier ", "fe e 2", 1);
        faultyAt("barrier fee 2 interest 1 ", "0" + TRAVELLER + GATE, 1);
    }

    private static void words() {
        EDGES.terms("I", "TOKENS: WORDS of 1 to 9 small letters that stand together,");
        taken(ALL + ";means a rate 1 or 1 keeps 9");
        taken(ALL + ";means z rate 1 or 1 keeps 9");
        taken(ALL + ";means abcdefghi rate 1 or 1 keeps 9;crumb abcdefghi day 1");
        faultyAt(ALL + ";means ", "abcdefghij rate 1 or 1 keeps 9", 1);
        faultyAt(ALL + ";means ", "abcdefghijklmnopqrstuvwxyzabcdefghijklmnopqrstuvwxyz rate 1 or 1 keeps 9", 1);
        faultyAt(ALL + ";means abcdefghi rate 1 or 1 keeps 9;crumb ", "abcdefghij day 1", 1);
        taken(ALL + ";means abcdefghi rate 1 or 1 keeps 9;means abcdefghj rate 1 or 1 keeps 9");
        taken(ALL + ";means bcdefghia rate 1 or 1 keeps 9;means cdefghia rate 1 or 1 keeps 9");
        for (char sign : new char[] {'A', 'Z', '`', '{', '@', '[', '_', (char) 225, (char) 250}) {
            faultyAt(ALL + ";means ", sign + " rate 1 or 1 keeps 9", 1);
            faultyAt(ALL + ";means q", sign + " rate 1 or 1 keeps 9", 1);
        }
    }

    private static void wholes() {
        EDGES.terms("I", "WHOLES of 1 to 3 digits that do, single ones of ;):");
        taken(ALL.replace("fee 2", "fee 0"));
        taken(ALL.replace("fee 2", "fee 02"));
        taken(ALL.replace("fee 2", "fee 009"));
        EDGES.same("010 is ten", Texts.told(ALL.replace("interest 10", "interest 010")).size(1), 10);
        faultyAt("barrier fee ", "0002 interest 10" + TRAVELLER + GATE, 1);
        faultyAt("barrier fee ", "0000000000000000000000000000000002 interest 10" + TRAVELLER + GATE, 1);
        faultyAt("barrier fee ", "/ interest 10", 1);
        faultyAt("barrier fee ", ": interest 10", 1);
        faultyAt("barrier fee 2", "/ interest 10", 1);
        faultyAt("barrier fee 2", ": interest 10", 1);
        faultyAt("barrier fee ", "-1 interest 10", 1);
        faultyAt(HEAD + ";", ";" + MEANS, 1);
    }

    private static void lines() {
        EDGES.terms("I", "LINE {; LINE}. LINE, one of:");
        faulty("", 1, 0);
        faulty(" ", 1, 1);
        faulty("  ", 1, 2);
        faultyAt("", ";" + ALL, 1);
        faulty(ALL + ";", 1, ALL.length() + 1);
        faulty(ALL + "; ", 1, ALL.length() + 2);
        faultyAt(ALL + " ", "means n rate 1 or 1 keeps 9", 1);
        faultyAt(ALL + ";", "fresh", 1);
        faultyAt(ALL + ";", "by", 1);
        faultyAt(ALL + ";", "m", 1);
        faultyAt(ALL + ";", "9", 1);
        taken(ALL);
    }

    /** A LINE that ends behind each of its TOKENS, and one with each TOKEN put twice. */
    private static void eachToken(String ahead, String line) {
        String[] tokens = line.split(" ");
        taken(ahead + line);
        StringBuilder so = new StringBuilder(ahead);
        for (int i = 0; i < tokens.length; i++) {
            so.append(i == 0 ? "" : " ").append(tokens[i]);
            if (i < tokens.length - 1) {
                faulty(so.toString(), 1, so.length());
                faulty(so + " ;" + GATE, 1, so.length() + 1);
            }
            if (i == tokens.length - 1 || !isNamed(tokens[i], tokens[i + 1])) {
                faultyAt(so + " ", tokens[i] + " " + String.join(" ", tokens), 1);
            }
        }
    }

    /** Whether a second such TOKEN is a NAME where the next one must be a NAME: no FORM then. */
    private static boolean isNamed(String token, String next) {
        return token.matches("[a-z]|plain|wine|old|oath") && next.matches("[a-z]");
    }

    private static void barrierLine() {
        EDGES.terms("I", "barrier fee WHOLE interest WHOLE (0 .. 9 pence a day in the warehouse; 0 .. 50 in a hundred),");
        String rest = TRAVELLER + GATE;
        whole("barrier fee ", 0, 9, " interest 10" + rest, x -> x.size(0));
        whole("barrier fee 2 interest ", 0, 50, rest, x -> x.size(1));
        for (String part : new String[] {"barrier", "barrier fee", "barrier fee 2", "barrier fee 2 interest"}) {
            faulty(part, 1, part.length());
            faulty(part + "  ", 1, part.length() + 2);
            faultyAt(part + " ", "barrier", 1);
            faultyAt(part + " ", rest, 1);
        }
        EDGES.terms("I", "ahead of all others");
        for (String line : (MEANS + TRAVELLER + GATE).substring(1).split(";")) {
            faultyAt("", line + ";" + HEAD + TRAVELLER + GATE, 6);
        }
        taken(HEAD + rest);
    }

    private static void meansLine() {
        EDGES.terms("I", "means NAME rate WHOLE or WHOLE keeps WHOLE (0 .. 9; 0 .. 9 by the other law; 1 .. 300 days; up to 4)");
        String ahead = HEAD + TRAVELLER + GATE + ";means m ";
        String good = ";good x oath t by m age 10 weighs 1 worth 1";
        whole(ahead + "rate ", 0, 9, " or 7 keeps 9" + good, x -> x.duty(0, 0));
        whole(ahead + "rate 7 or ", 0, 9, " keeps 9" + good, x -> x.otherLaw(0, 0, 0));
        whole(ahead + "rate 7 or 5 keeps ", 1, 300, ";good x plain t by m age 0 weighs 1 worth 1", x -> x.turned(0) - 1);
        eachToken(HEAD + TRAVELLER + GATE + ";", "means m rate 1 or 1 keeps 9");
        many("means # rate 1 or 1 keeps 9", 4, 2);
    }

    private static void travellerLine() {
        EDGES.terms("I", "traveller NAME allow WHOLE hunger WHOLE (0 .. 99; 0 .. 3; up to 4), or");
        whole(HEAD + GATE + ";traveller t allow ", 0, 99, " hunger 1", x -> x.traveller(0, 0));
        whole(HEAD + GATE + ";traveller t allow 5 hunger ", 0, 3, "", x -> x.traveller(0, 1));
        eachToken(HEAD + GATE + ";", "traveller t allow 5 hunger 1");
        many("traveller # allow 5 hunger 1", 4, 3);
    }

    private static void gateLine() {
        EDGES.terms("I", "or gate NAME nose WHOLE opens WHOLE shuts WHOLE (1 .. 99; 0 .. 23; from opens .. 23; up to 3)");
        String ahead = HEAD + TRAVELLER + ";gate g nose ";
        whole(ahead, 1, 99, " opens 3 shuts 9", x -> x.gate(0, 0));
        whole(ahead + "5 opens ", 0, 23, " shuts 23", x -> x.gate(0, 1));
        for (int opens : new int[] {0, 1, 9, 22, 23}) {
            whole(ahead + "5 opens " + opens + " shuts ", opens, 23, "", x -> x.gate(0, 2));
        }
        eachToken(HEAD + TRAVELLER + ";", "gate g nose 5 opens 3 shuts 9");
        many("gate # nose 5 opens 3 shuts 9", 3, 4);
    }

    private static void goodLine() {
        EDGES.terms("I", "good NAME fresh TRAVELLER age WHOLE weighs WHOLE worth WHOLE, or");
        String fresh = ALL + ";good x fresh t age ";
        whole(fresh, 0, 300, " weighs 5 worth 5", x -> x.age(0, 0));
        whole(fresh + "0 weighs ", 1, 9, " worth 5", x -> x.good(0, 3));
        whole(fresh + "0 weighs 5 worth ", 0, 99, "", x -> x.worth(0, 0));
        eachToken(ALL + ";", "good x fresh t age 0 weighs 5 worth 5");
        faultyAt(ALL + ";good x fresh t ", "by m age 0 weighs 5 worth 5", 1);

        EDGES.terms("I", "or good NAME KIND TRAVELLER by MEANS age WHOLE weighs WHOLE worth WHOLE");
        for (String kind : new String[] {"plain", "wine", "old", "oath"}) {
            String kept = ALL + ";good x " + kind + " t by m age ";
            whole(kept, 0, 300, " weighs 5 worth 5", x -> x.age(0, 0));
            whole(kept + "0 weighs ", 1, 9, " worth 5", x -> x.good(0, 3));
            whole(kept + "0 weighs 5 worth ", 0, 99, "", x -> x.worth(0, 0));
            eachToken(ALL + ";", "good x " + kind + " t by m age 0 weighs 5 worth 5");
            faultyAt(ALL + ";good x " + kind + " t ", "age 0 weighs 5 worth 5", 1);
        }
        EDGES.terms("I", "0 .. 300; 1 .. 9; 0 .. 99; up to 8: whose it is)");
        many("good # fresh t age 0 weighs 5 worth 5", 8, 5);
        SaltedGate x = Texts.told(ALL + ";traveller u allow 0 hunger 0" + GOOD + ";good y old u by m age 0 weighs 1 worth 1");
        EDGES.due(x, 0, "good", 0, 2);
        EDGES.due(x, 1, "good", 1, 2);
    }

    private static void kinds() {
        EDGES.terms("I", "(KIND: plain, wine, old, or oath;");
        String[] kinds = {"plain", "wine", "old", "oath"};
        for (int kind = 0; kind < kinds.length; kind++) {
            SaltedGate x = Texts.told(ALL + ";good x " + kinds[kind] + " t by m age 0 weighs 1 worth 1");
            EDGES.due(x, kind + 1, "good", 0, 0);
        }
        for (String odd : new String[] {"plai", "plains", "wines", "win", "olds", "ol", "oaths", "oat", "freshs", "fres",
            "t", "m", "x", "salted", "by", "good", "7", ";"}) {
            faultyAt(ALL + ";good x ", odd + " t by m age 0 weighs 1 worth 1", 1);
        }
    }

    private static void hidesLine() {
        EDGES.terms("I", "hides GOOD (each once), or");
        taken(ALL + GOOD + ";hides x");
        faultyAt(ALL + GOOD + ";hides x;hides ", "x", 3);
        faulty(ALL + GOOD + ";hides", 1, (ALL + GOOD + ";hides").length());
        faultyAt(ALL + GOOD + ";hides ", ";hides x", 1);
        faultyAt(ALL + GOOD + ";hides x ", "x", 1);
        String two = ALL + GOOD + GOOD.replace(" x", " y");
        taken(two + ";hides y;hides x");
        faultyAt(two + ";hides y;hides x;hides ", "y", 3);
        String eight = goods(8);
        StringBuilder hides = new StringBuilder(eight);
        for (int i = 0; i < 8; i++) {
            hides.append(";hides n").append((char) ('a' + i));
        }
        taken(hides.toString());
        faultyAt(hides + ";hides ", "na", 3);
        faultyAt(hides + ";hides ", "nh", 3);
    }

    private static String goods(int many) {
        StringBuilder text = new StringBuilder(ALL);
        for (int i = 0; i < many; i++) {
            text.append(";good n").append((char) ('a' + i)).append(" fresh t age 0 weighs 5 worth 5");
        }
        return text.toString();
    }

    private static void crossesLine() {
        EDGES.terms("I", "crosses TRAVELLER GATE day WHOLE hour WHOLE (0 .. 60, not below that of a crossing told ahead; 0 .. 23; up to 6), or");
        String by = HEAD + ";means m rate 1 or 1 keeps 300" + TRAVELLER;
        String open = by + ";gate g nose 9 opens 0 shuts 23;good x plain t by m age ";
        String crosses = " weighs 1 worth 1;crosses t g day ";
        EDGES.same("day 0 is taken as 0", Texts.told(open + 300 + crosses + "0 hour 0").planned(0), 30);
        EDGES.same("day 1 is above it", Texts.told(open + 300 + crosses + "1 hour 0").planned(0), 0);
        EDGES.same("day 60 is taken as 60", Texts.told(open + 240 + crosses + "60 hour 0").planned(0), 30);
        EDGES.same("day 59 is below it", Texts.told(open + 240 + crosses + "59 hour 0").planned(0), 29);
        faultyAt(open + 0 + crosses, "61 hour 0", 4);
        String day = ALL + ";crosses t g day ";
        taken(day + "5 hour 9;crosses t g day 5 hour 0;crosses t g day 6 hour 0;crosses t g day 60 hour 0");
        faultyAt(day + "5 hour 9;crosses t g day ", "4 hour 10", 4);
        faultyAt(day + "1 hour 9;crosses t g day ", "0 hour 10", 4);
        faultyAt(day + "60 hour 9;crosses t g day ", "59 hour 10", 4);
        faultyAt(day + "3 hour 9;crosses t g day 9 hour 0;crosses t g day ", "8 hour 0", 4);
        faultyAt(day + "0 hour 9;crosses t g day 0 hour 0;crosses t g day ", "61 hour 0", 4);
        for (int hour : new int[] {0, 23}) {
            String at = by + ";gate g nose 9 opens " + hour + " shuts " + hour + ";crosses t g day 0 hour ";
            EDGES.same("hour " + hour + " is taken as such", Texts.told(at + hour).judge(), -2);
            EDGES.same("another is not", Texts.told(at + (hour == 0 ? 1 : 22)).judge(), 0);
        }
        faultyAt(day + "0 hour ", "24", 4);
        eachToken(ALL + ";", "crosses t g day 5 hour 9");
        many("crosses t g day 5 hour 9", 6, 6);
    }

    private static void priceLine() {
        EDGES.terms("I", "or price MEANS here WHOLE there WHOLE (0 .. 99, 0 .. 99; once for each)");
        String turned = ALL + ";good x plain t by m age 10 weighs 1 worth 1;price m here ";
        whole(turned, 0, 99, " there 55", x -> -x.gain(0, 0));
        String kept = ALL + ";good x plain t by m age 0 weighs 1 worth 1;price m here ";
        whole(kept + "0 there ", 0, 99, "", x -> x.gain(0, 0));
        eachToken(ALL + ";", "price m here 5 there 9");
        faultyAt(ALL + ";price m here 5 there 9;price ", "m here 5 there 9", 3);
        String four = ALL + ";means n rate 1 or 1 keeps 1;means o rate 1 or 1 keeps 1;means p rate 1 or 1 keeps 1"
                + ";price p here 1 there 1;price m here 1 there 1;price o here 1 there 1;price n here 1 there 1";
        EDGES.same("a price for each of four", Texts.told(four).size(7), 4);
        for (String name : new String[] {"m", "n", "o", "p"}) {
            faultyAt(four + ";price ", name, 3);
        }
    }

    private static void crumbLine() {
        EDGES.terms("I", "crumb MEANS day WHOLE (0 .. 60; up to 5)");
        String good = HEAD + ";means m rate 1 or 1 keeps 300" + TRAVELLER + GATE + ";good x plain t by m age ";
        String crumb = " weighs 1 worth 1;crumb m day ";
        EDGES.same("day 0 is taken as 0", Texts.told(good + 300 + crumb + 0).fits(), 1);
        EDGES.same("day 1 is above it", Texts.told(good + 300 + crumb + 1).fits(), 0);
        EDGES.same("day 60 is taken as 60", Texts.told(good + 240 + crumb + 60).fits(), 1);
        EDGES.same("60 days are too many", Texts.told(good + 241 + crumb + 60).fits(), 0);
        EDGES.same("59 days are not", Texts.told(good + 241 + crumb + 59).fits(), 1);
        faultyAt(good + 0 + crumb, "61", 4);
        taken(ALL + ";crumb m day 60;crumb m day 0");
        eachToken(ALL + ";", "crumb m day 5");
        many("crumb m day 5", 5, 8);
    }

    /** As many LINES as there is room for, and one more; one that comes first counts too. */
    private static void many(String line, int room, int size) {
        String word = line.substring(0, line.indexOf(' '));
        StringBuilder text = new StringBuilder(ALL);
        int there = (MEANS + TRAVELLER + GATE).contains(";" + word + " ") ? 1 : 0;
        for (int i = there; i < room; i++) {
            text.append(';').append(line.replace("#", "n" + (char) ('a' + i)));
        }
        EDGES.same("as many as " + room + " of " + word, Texts.told(text.toString()).size(size), room);
        faultyAt(text + ";", line.replace("#", "nz"), 5);
        faultyAt(text + "; ", word, 5);
    }

    private static void names() {
        EDGES.terms("I", "NAMES are WORDS but barrier, means, traveller, gate, good, hides, crosses, price, crumb, fresh, by;");
        for (String never : new String[] {"barrier", "means", "traveller", "gate", "good", "hides", "crosses", "price",
            "crumb", "fresh", "by"}) {
            faultyAt(ALL + ";means ", never + " rate 1 or 1 keeps 9", 1);
            faultyAt(ALL + ";traveller ", never + " allow 1 hunger 1", 1);
            faultyAt(ALL + ";gate ", never + " nose 1 opens 1 shuts 1", 1);
            faultyAt(ALL + ";good ", never + " fresh t age 1 weighs 1 worth 1", 1);
            faultyAt(ALL + ";good x fresh ", never, 1);
            faultyAt(ALL + ";good x plain t by ", never, 1);
            faultyAt(ALL + GOOD + ";hides ", never, 1);
            faultyAt(ALL + ";crosses ", never, 1);
            faultyAt(ALL + ";crosses t ", never, 1);
            faultyAt(ALL + ";price ", never, 1);
            faultyAt(ALL + ";crumb ", never, 1);
        }
        for (String other : new String[] {"fee", "interest", "rate", "or", "keeps", "allow", "hunger", "nose", "opens",
            "shuts", "age", "weighs", "worth", "plain", "wine", "old", "oath", "day", "hour", "here", "there", "barriers",
            "mean", "b", "goods"}) {
            taken(ALL + ";means " + other + " rate 1 or 1 keeps 9;good x plain t by " + other
                    + " age 1 weighs 1 worth 1;price " + other + " here 1 there 1;crumb " + other + " day 1");
            taken(ALL + ";good " + other + " fresh t age 1 weighs 1 worth 1;hides " + other);
            taken(HEAD + ";traveller " + other + " allow 1 hunger 1" + GATE + ";crosses " + other + " g day 1 hour 1"
                    + ";good x fresh " + other + " age 1 weighs 1 worth 1");
            taken(HEAD + TRAVELLER + ";gate " + other + " nose 1 opens 1 shuts 1;crosses t " + other + " day 1 hour 1");
        }
        EDGES.terms("I", "each told once, ahead of its use.");
        faultyAt(ALL + ";price ", "n here 1 there 1;means n rate 1 or 1 keeps 9", 2);
        faultyAt(ALL + ";hides ", "x" + GOOD, 2);
        faultyAt(ALL + ";crosses ", "u g day 1 hour 1;traveller u allow 1 hunger 1", 2);
        faultyAt(ALL + ";means ", "m rate 1 or 1 keeps 9", 3);
    }

    private static void theFirstFault() {
        EDGES.terms("I", "FAULTS, the first that is met from the left, of one place the least number:");
        faultyAt("barrier fee ", "10 interest 99", 4);
        faultyAt("barrier fee ", "10 @", 4);
        faultyAt("", "means odd @", 6);
        faultyAt(ALL + ";crumb ", "t day 99 @", 2);
        faultyAt(ALL + ";means ", "t rate 99 @", 3);
        faultyAt(ALL + ";", "barrier @", 3);
        faultyAt(ALL + ";means n rate ", "x 99", 1);
        faultyAt(ALL + ";crosses ", "u v", 2);
        faultyAt(ALL + ";good ", "m fresh u age 999", 3);
        faultyAt(ALL + ";good x fresh ", "u age 999", 2);
        faultyAt(ALL + ";good x plain t by ", "u age 999", 2);
        // one place: the end is FORM and LACKS, a WHOLE of four digits is no TOKEN and out of bounds
        faulty(HEAD + ";", 1, HEAD.length() + 1);
        faulty(HEAD + ";traveller t allow 1", 1, (HEAD + ";traveller t allow 1").length());
        faulty("", 1, 0);
        faultyAt("barrier fee ", "1000", 1);
        faultyAt(HEAD + ";", "odd", 1);
    }

    private static void faultOne() {
        EDGES.terms("I", "1 FORM: the first byte that begins no TOKEN, or TOKEN with which no BARRIER goes on (the end: its place).");
        faultyAt(HEAD + TRAVELLER + GATE, "@", 1);
        faultyAt(HEAD + TRAVELLER + GATE + " ", "g", 1);
        faultyAt("barrier fee 2", "@interest 10", 1);
        faultyAt("barrier ", "2 fee", 1);
        faultyAt(HEAD + " ", "10", 1);
        faulty("barrier fee 2 interest", 1, 22);
        faulty("barrier fee 2 interest    ", 1, 26);
        faulty(ALL + ";good x plain t by", 1, (ALL + ";good x plain t by").length());
        faultyAt(ALL + GOOD + ";", "x", 1);
    }

    private static void faultTwo() {
        EDGES.terms("I", "2 a NAME that isn't told, or is of another sort than must stand there; at it.");
        String all = ALL + GOOD;
        for (String name : new String[] {"q", "m", "t", "g", "x"}) {
            if (!name.equals("t")) {
                faultyAt(all + ";good y fresh ", name + " age 999", 2);
                faultyAt(all + ";good y plain ", name + " by m", 2);
                faultyAt(all + ";crosses ", name + " g", 2);
            }
            if (!name.equals("m")) {
                faultyAt(all + ";good y wine t by ", name, 2);
                faultyAt(all + ";price ", name + " here 100", 2);
                faultyAt(all + ";crumb ", name + " day 61", 2);
            }
            if (!name.equals("g")) {
                faultyAt(all + ";crosses t ", name, 2);
            }
            if (!name.equals("x")) {
                faultyAt(all + ";hides ", name, 2);
            }
        }
        faultyAt(all + ";good y fresh ", "y", 2);
    }

    private static void faultThree() {
        EDGES.terms("I", "3 a NAME told again; at it; a GOOD that is hidden already; MEANS that have prices already; at it;");
        String all = ALL + GOOD;
        for (String name : new String[] {"m", "t", "g", "x"}) {
            faultyAt(all + ";means ", name + " rate 99", 3);
            faultyAt(all + ";traveller ", name + " allow 999", 3);
            faultyAt(all + ";gate ", name + " nose 0", 3);
            faultyAt(all + ";good ", name + " odd", 3);
        }
        faultyAt(all + ";hides x;hides ", "x odd", 3);
        faultyAt(ALL + ";price m here 0 there 0;price ", "m odd", 3);
        EDGES.terms("I", "a second barrier: at that WORD.");
        faultyAt(HEAD + ";", "barrier", 3);
        faultyAt(HEAD + "; ", HEAD, 3);
        faultyAt(ALL + ";", "barrier odd", 3);
    }

    private static void faultFour() {
        EDGES.terms("I", "4 a WHOLE out of bounds; at it.");
        faultyAt("barrier fee ", "010 interest 10", 4);
        faultyAt("barrier fee   ", "10", 4);
        faultyAt(ALL + ";gate k nose ", "000", 4);
        faultyAt(ALL + ";gate k nose 1 opens 012 shuts ", "011", 4);
        faultyAt(ALL + ";good x fresh t age 1 weighs ", "0", 4);
        faultyAt(ALL + ";means n rate 1 or 1 keeps ", "00", 4);
    }

    private static void faultFive() {
        EDGES.terms("I", "5 MANY: a LINE more of its sort than there is room for, at its first WORD.");
        faultyAt(goods(8) + ";", "good na fresh t age 999", 5);
        faultyAt(goods(8) + ";", "good", 5);
        faultyAt(goods(8) + ";", "good @", 5);
        faulty(goods(7) + ";good", 1, (goods(7) + ";good").length());
    }

    private static void faultSix() {
        EDGES.terms("I", "6 LACKS: any LINE ahead of the barrier; at its WORD;");
        for (String word : new String[] {"means", "traveller", "gate", "good", "hides", "crosses", "price", "crumb"}) {
            faultyAt("", word, 6);
            faultyAt("   ", word + " @", 6);
        }
        for (String odd : new String[] {"fresh", "by", "fee", "m", "7", ";"}) {
            faultyAt("", odd, 1);
        }
        EDGES.terms("I", "at the end: no traveller, no gate.");
        faulty(HEAD, 6, HEAD.length());
        faulty(HEAD + "  ", 6, HEAD.length() + 2);
        faulty(HEAD + TRAVELLER, 6, (HEAD + TRAVELLER).length());
        faulty(HEAD + GATE, 6, (HEAD + GATE).length());
        faulty(HEAD + MEANS + ";crumb m day 1", 6, (HEAD + MEANS + ";crumb m day 1").length());
        taken(HEAD + TRAVELLER + GATE);
        taken(HEAD + GATE + TRAVELLER);
    }
}
