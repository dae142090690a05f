import java.util.NoSuchElementException;

/** Promises 49 to 51: led, size, trouble. */
public final class ToldTest {
    private static final Check CHECK = new Check();

    public static void main(String[] args) {
        led();
        size();
        trouble();
        CHECK.end();
    }

    private static int ledOr(SaltedGate x, int i) {
        try {
            return x.led(i);
        } catch (NoSuchElementException e) {
            return -7;
        }
    }

    private static void led() {
        SaltedGate none = new SaltedGate();
        CHECK.due("led(0) without a BARRIER", ledOr(none, 0), -7);
        SaltedGate x = Texts.told(Texts.FULL);
        CHECK.due("led(0) on day 0", ledOr(x, 0), -7);
        x.days(3);
        CHECK.due("led(0) on day 3", ledOr(x, 0), 2);
        CHECK.due("led(1) on day 3", ledOr(x, 1), -7);
        x.days(18);
        CHECK.due("led(0) on day 21", ledOr(x, 0), 1);
        CHECK.due("led(1) on day 21", ledOr(x, 1), 2);
        CHECK.due("led(2) on day 21", ledOr(x, 2), -7);
        x.eat(1);
        CHECK.due("what is eaten has turned too", ledOr(x, 0), 1);
        x.days(60);
        CHECK.due("led(0) on day 81", ledOr(x, 0), 0);
        CHECK.due("led(3) on day 81", ledOr(x, 3), 3);
        CHECK.due("led(4): an oath never", ledOr(x, 4), -7);
        CHECK.due("led(-1)", ledOr(x, -1), -7);
        CHECK.due("led(least)", ledOr(x, Integer.MIN_VALUE), -7);
        CHECK.due("led(most)", ledOr(x, Integer.MAX_VALUE), -7);
    }

    private static void size() {
        SaltedGate x = Texts.told(Texts.FULL.replace(";crumb sugar day 50", ""));
        int[] want = {2, 10, 2, 2, 2, 5, 3, 2, 1, 0, 0, 0, 0};
        for (int what = 0; what < want.length; what++) {
            CHECK.due("size(" + what + ")", x.size(what), want[what]);
        }
        x.days(4);
        x.days(5);
        x.mark();
        x.feed(0, 0, 0, 0, 0);
        CHECK.due("the day", x.size(9), 9);
        CHECK.due("ACTS", x.size(10), 2);
        CHECK.due("MARKS", x.size(11), 1);
        CHECK.due("bytes", x.size(12), 20);
        for (int n : new int[] {-1, 13, Integer.MAX_VALUE, Integer.MIN_VALUE}) {
            CHECK.due("size(" + n + ")", x.size(n), -1);
        }
        CHECK.due("prices", Texts.told(Texts.SMALL + ";means m rate 1 or 1 keeps 1;means n rate 1 or 1 keeps 1"
                + ";price n here 1 there 2").size(7), 1);
    }

    private static void trouble() {
        SaltedGate x = Texts.told(Texts.FULL);
        x.good(9, 0);
        CHECK.due("1", x.trouble(), 1);
        x.size(99);
        ledOr(x, 99);
        x.where();
        x.fault();
        x.trouble();
        x.feed(0, 0, 0, 0, 0);
        CHECK.due("calls without a number leave it", x.trouble(), 1);
        for (int i = 0; i < 60; i++) {
            x.feed(0, 0, 0, 0, 0);
        }
        CHECK.due("a full TAPE leaves it", x.trouble(), 1);
        x.good(0, 0);
        CHECK.due("0", x.trouble(), 0);
        x.age(0, 99);
        CHECK.due("2", x.trouble(), 2);
        x.search(0);
        CHECK.due("0", x.trouble(), 0);
        x.undo();
        CHECK.due("6", x.trouble(), 6);
        x.mark();
        CHECK.due("0", x.trouble(), 0);
        x.eat(0);
        x.eat(0);
        CHECK.due("5", x.trouble(), 5);
        x.back(0);
        CHECK.due("0", x.trouble(), 0);
        x.barrier(3);
        CHECK.due("4", x.trouble(), 4);
        x.owed(1, 1, true);
        CHECK.due("0", x.trouble(), 0);
        x.mark();
        x.mark();
        x.mark();
        CHECK.due("3", x.trouble(), 3);
    }
}
