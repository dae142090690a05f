import java.nio.charset.StandardCharsets;

/** Tells texts to an object, twenty bytes a call. */
final class Texts {
    static final String HEAD = "barrier fee 2 interest 10";
    /** The least text that is a BARRIER, with a place for one more LINE behind it. */
    static final String SMALL = HEAD + ";traveller t allow 10 hunger 1;gate g nose 12 opens 8 shuts 18";
    static final String FULL = HEAD
            + ";means salt rate 2 or 1 keeps 100;means sugar rate 3 or 5 keeps 40"
            + ";traveller t allow 10 hunger 1;traveller u allow 0 hunger 2"
            + ";gate g nose 12 opens 8 shuts 18;gate h nose 30 opens 0 shuts 23"
            + ";good a plain t by salt age 35 weighs 2 worth 20"
            + ";good b wine t by sugar age 20 weighs 3 worth 30"
            + ";good c fresh t age 1 weighs 4 worth 9"
            + ";good d old u by salt age 60 weighs 1 worth 5"
            + ";good e oath u by sugar age 90 weighs 2 worth 7"
            + ";hides b;hides d"
            + ";crosses t g day 5 hour 9;crosses u h day 10 hour 5;crosses t g day 12 hour 7"
            + ";price salt here 3 there 10;price sugar here 5 there 4"
            + ";crumb salt day 3;crumb sugar day 50";

    private Texts() {
    }

    /** Without the blanks that no two TOKENS need between them. */
    static String tight(String text) {
        return text.replaceAll("(?<=[a-z]) (?=[0-9])|(?<=[0-9]) (?=[a-z])", "");
    }

    static int tell(SaltedGate x, String text) {
        feedAll(x, text);
        return x.barrier(text.length());
    }

    static SaltedGate told(String text) {
        SaltedGate x = new SaltedGate();
        if (tell(x, text) < 0) {
            throw new IllegalStateException("fault " + x.fault() + " at " + x.where() + " of " + text);
        }
        return x;
    }

    static void feedAll(SaltedGate x, String text) {
        byte[] bytes = text.getBytes(StandardCharsets.ISO_8859_1);
        for (int at = 0; at < bytes.length; at += 20) {
            x.feed(number(bytes, at), number(bytes, at + 4), number(bytes, at + 8),
                    number(bytes, at + 12), number(bytes, at + 16));
        }
    }

    private static int number(byte[] bytes, int at) {
        int number = 0;
        for (int i = at; i < at + 4; i++) {
            number = number << 8 | (i < bytes.length ? bytes[i] & 255 : ' ');
        }
        return number;
    }
}
