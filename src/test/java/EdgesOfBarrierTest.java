import java.util.List;
import java.util.function.Supplier;

/** Promises 1 to 8, and how long an object is used, at the edges that each sentence names. */
public final class EdgesOfBarrierTest {
    private static final Edges EDGES = new Edges("Use", "Constants", "Promise 1", "Promise 2", "Promise 3",
            "Promise 4", "Promise 5", "Promise 6", "Promise 7", "Promise 8");
    private static final String FAULTY = "barrier fee 9 interest 9;means q rate 9 or 9 keeps 1;traveller z allow 9 hunger 3"
            + ";gate y nose 1 opens 1 shuts 1;good r fresh z age 9 weighs 9 worth 9;hides r;crumb q day 9;odd";
    /** Calls whose numbers are right for Texts.FULL, but which need a BARRIER. */
    private static final String[] NEED_BARRIER = {
        "good 0 0", "traveller 0 0", "gate 0 0", "age 0 0", "worth 0 0", "duty 0 0", "smell 0 0", "turned 0", "asked 0 0 0",
        "found 0 0 0", "otherLaw 0 0 0", "carries 0 0", "dutyBy 0 0", "nearest 0 0 0", "bestGate 0 0", "cheapestDay 0 0",
        "cheapest 0 0", "eats 0 0 0", "eatsAsked 0 0 0", "hideBest 0 0 0", "hideAsked 0 0 0", "cover 0 0 0", "hold 0",
        "holdGain 0", "gain 0 0", "bestGood", "search 0", "planned 0", "judge", "planOver 0", "planOver 1", "fits", "could 0",
        "surely 0", "owed 1 1 0", "owed 1 1 1", "season 0", "seizedIn 0 0 1", "eat 0", "hide 0 1", "hide 1 0", "cross 0 0",
        "days 1", "mark", "back 0",
    };

    public static void main(String[] args) {
        use();
        promise1();
        promise2();
        promise3();
        barrierStays();
        promise4();
        promise5();
        promise6();
        promise7();
        promise8();
        EDGES.end();
    }

    private static void use() {
        EDGES.says("Use", "An object is used for at most 512 calls after it has been made; what later calls answer is free.");
        SaltedGate x = new SaltedGate();
        for (int call = 1; call <= 511; call++) {
            x.feed(call, 0, 0, 0, 0);
        }
        EDGES.same("the 512th call", x.size(12), 1100);
        SaltedGate y = Texts.told(Texts.FULL);
        int calls = (Texts.FULL.length() + 19) / 20 + 1;
        for (; calls + 2 < 512; calls += 2) {
            y.days(1 + calls % 60);
            y.undo();
        }
        y.days(60);
        EDGES.same("an ACT as one of the last calls", y.size(9), 60);

        EDGES.says("Constants", "The constants: `NONE = -1`: There is none; refused.");
        EDGES.same("NONE", SaltedGate.NONE, -1);
    }

    private static int[] numbers(String call) {
        String[] parts = call.split(" ");
        int[] numbers = new int[parts.length - 1];
        for (int i = 1; i < parts.length; i++) {
            numbers[i - 1] = Integer.parseInt(parts[i]);
        }
        return numbers;
    }

    private static void promise1() {
        EDGES.promise(1, "No BARRIER.");
        for (String call : NEED_BARRIER) {
            EDGES.refused(Scenes::without, 1, call.split(" ")[0], numbers(call));
        }
        EDGES.refused(Scenes::without, 6, "undo");
        SaltedGate x = new SaltedGate();
        EDGES.due(x, 0, "trouble");
        EDGES.due(x, 0, "fault");
        EDGES.due(x, -1, "where");
        EDGES.due(x, Calls.THROWS, "led", 0);
        for (int what = 0; what <= 12; what++) {
            EDGES.due(x, 0, "size", what);
        }
        // a text with a FAULT and one on THE TAPE alone make no BARRIER either
        Supplier<SaltedGate> faulty = () -> {
            SaltedGate y = new SaltedGate();
            Texts.tell(y, Texts.FULL + ";odd");
            Texts.feedAll(y, Texts.FULL);
            return y;
        };
        for (String call : NEED_BARRIER) {
            EDGES.refused(faulty, 1, call.split(" ")[0], numbers(call));
        }
    }

    private static void promise2() {
        EDGES.promise(2, "Twenty bytes come behind THE TAPE, of each number the highest first: how many it has;");
        SaltedGate x = new SaltedGate();
        EDGES.due(x, 20, "feed", 0x62617272, 0x69657220, 0x66656520, 0x39202020, 0x20202020);
        EDGES.due(x, 20, "size", 12);
        EDGES.due(x, 40, "feed", 0x696e7465, 0x72657374, 0x20353120, 0x20202020, 0x20202020);
        EDGES.same("the text is there, byte by byte", x.barrier(40), -1);
        EDGES.due(x, 4, "fault");
        EDGES.due(x, 29, "where");
        // bytes of all values, each place of a number: the first that begins no TOKEN is told by its place
        for (int place = 0; place < 20; place++) {
            int[] a = {0x20202020, 0x20202020, 0x20202020, 0x20202020, 0x20202020};
            a[place / 4] ^= 0xe0 << 24 - 8 * (place % 4);
            SaltedGate y = new SaltedGate();
            y.feed(a[0], a[1], a[2], a[3], a[4]);
            y.barrier(20);
            EDGES.same("where() of byte " + place, y.where(), place);
        }
        EDGES.promise(2, "NONE, and none comes, if there would be more than 1,100.");
        SaltedGate z = new SaltedGate();
        String text = Texts.FULL + " ".repeat(1100 - Texts.FULL.length());
        for (int many = 20; many <= 1080; many += 20) {
            z.feed(0, 0, 0, 0, 0);
        }
        EDGES.due(z, 1080, "size", 12);
        EDGES.due(z, 1100, "feed", 0, 0, 0, 0, 0);
        EDGES.due(z, -1, "feed", 0, 0, 0, 0, 0);
        EDGES.due(z, -1, "feed", -1, -1, -1, -1, -1);
        EDGES.due(z, 1100, "size", 12);
        EDGES.due(z, 0, "trouble");
        z.barrier(1100);
        EDGES.due(z, 20, "feed", 0, 0, 0, 0, 0);
        SaltedGate full = new SaltedGate();
        Texts.feedAll(full, text);
        EDGES.due(full, -1, "feed", 0, 0, 0, 0, 0);
        EDGES.due(full, 5, "barrier", 1100);
        EDGES.due(full, 0, "size", 12);
        EDGES.due(full, 20, "feed", 0x6f646420, 0x20202020, 0x20202020, 0x20202020, 0x20202020);
        full.barrier(20);
        EDGES.due(full, 0, "where");
    }

    private static SaltedGate fed() {
        SaltedGate x = Scenes.late();
        Texts.feedAll(x, Texts.SMALL);
        return x;
    }

    private static void promise3() {
        EDGES.promise(3, "The first n bytes of THE TAPE (it is empty then) are the BARRIER from now on");
        SaltedGate x = new SaltedGate();
        Texts.feedAll(x, Texts.SMALL + ";odd");
        EDGES.due(x, 0, "barrier", Texts.SMALL.length());
        EDGES.due(x, 0, "size", 12);
        EDGES.due(x, 0, "fault");
        Texts.feedAll(x, Texts.SMALL + ";odd");
        EDGES.same("one byte more is read", x.barrier(Texts.SMALL.length() + 1), -1);
        EDGES.due(x, 1, "fault");
        EDGES.due(x, Texts.SMALL.length() + 1, "where");
        EDGES.due(x, 0, "size", 12);
        EDGES.same("nothing of it is left", x.barrier(1), -1);
        EDGES.due(x, 2, "trouble");
        String one = Texts.SMALL.replace("shuts 18", "shuts 1").replace("opens 8", "opens 1");
        Texts.feedAll(x, one + "9");
        EDGES.due(x, 0, "barrier", one.length());
        EDGES.due(x, 1, "gate", 0, 2);

        EDGES.promise(3, "(day 0; nothing to undo, no MARKS): how many goods.");
        SaltedGate y = fed();
        EDGES.due(y, 300, "size", 9);
        EDGES.due(y, 16, "size", 10);
        EDGES.due(y, 3, "size", 11);
        EDGES.due(y, 0, "barrier", Texts.SMALL.length());
        for (int what = 9; what <= 12; what++) {
            EDGES.due(y, 0, "size", what);
        }
        EDGES.same("undo()", y.undo() ? 1 : 0, 0);
        EDGES.same("back(0)", y.back(0) ? 1 : 0, 0);
        Texts.feedAll(y, Texts.tight(Scenes.FULLEST));
        EDGES.due(y, 8, "barrier", Texts.tight(Scenes.FULLEST).length());
        EDGES.is("as if it were the first", Snapshot.of(y).equals(Snapshot.of(Scenes.fullest())));
        behindOthers();

        EDGES.promise(3, "NONE: 2 (THE TAPE stays);");
        int bytes = fed().size(12);
        EDGES.refused(EdgesOfBarrierTest::fed, 2, "barrier", -1);
        EDGES.refused(EdgesOfBarrierTest::fed, 2, "barrier", bytes + 1);
        EDGES.refused(EdgesOfBarrierTest::fed, 2, "barrier", 1100);
        EDGES.refused(EdgesOfBarrierTest::fed, 2, "barrier", 1101);
        EDGES.refused(EdgesOfBarrierTest::fed, 2, "barrier", Integer.MAX_VALUE);
        EDGES.refused(EdgesOfBarrierTest::fed, 2, "barrier", Integer.MIN_VALUE);
        EDGES.refused(Scenes::without, 2, "barrier", 1);
        EDGES.refused(Scenes::without, 2, "barrier", -1);
        SaltedGate z = fed();
        z.barrier(-1);
        z.barrier(bytes + 1);
        EDGES.due(z, 0, "barrier", bytes);
        EDGES.due(z, 10, "traveller", 0, 0);
        SaltedGate none = new SaltedGate();
        EDGES.same("no byte is a number that is right", none.barrier(0), -1);
        EDGES.due(none, 4, "trouble");
        EDGES.due(none, 0, "where");
    }

    /** Whatever was told ahead of it, by texts with FAULTS too, a BARRIER is as if it were the first. */
    private static void behindOthers() {
        String[] texts = {Texts.FULL, Texts.tight(Scenes.FULLEST), Texts.SMALL};
        for (String first : texts) {
            for (String second : texts) {
                for (String last : texts) {
                    for (String between : new String[] {"", "odd", FAULTY}) {
                        SaltedGate x = Texts.told(first);
                        x.days(3);
                        x.mark();
                        Texts.tell(x, between);
                        Texts.tell(x, second);
                        x.days(9);
                        Texts.tell(x, between);
                        Texts.tell(x, last);
                        EDGES.is("as if it were the first, behind others", Snapshot.of(x).equals(Snapshot.of(Texts.told(last))));
                    }
                }
            }
        }
    }

    /** Told again behind a FAULT, the BARRIER is what it was; only fault(), where() and THE TAPE tell of it. */
    private static void barrierStays() {
        EDGES.promise(3, "4 (the BARRIER stays).");
        for (Supplier<SaltedGate> scene : List.<Supplier<SaltedGate>>of(Scenes::late, Scenes::fullest, Scenes::small)) {
            SaltedGate x = scene.get();
            EDGES.same("barrier() of a faulty text", Texts.tell(x, FAULTY), -1);
            EDGES.due(x, 4, "trouble");
            EDGES.due(x, FAULTY.length() - 3, "where");
            EDGES.due(x, 1, "fault");
            String then = Snapshot.of(x);
            EDGES.is("all else as it was", then.substring(2).equals(Snapshot.of(scene.get()).substring(2)));
        }
        SaltedGate y = Scenes.midst();
        EDGES.same("the midst of a text", y.barrier(13), -1);
        EDGES.due(y, 6, "size", 9);
        EDGES.due(y, 5, "size", 10);
        EDGES.due(y, 1, "size", 11);
        EDGES.due(y, 0, "size", 12);
        EDGES.due(y, 1, "undo");
        EDGES.due(y, 1, "back", 0);
        EDGES.due(y, 2 * 2 * 3, "duty", 0, 0);
    }

    private static void promise4() {
        EDGES.promise(4, "The FAULT of the latest barrier() not refused by 2;");
        SaltedGate x = new SaltedGate();
        String[] texts = {"odd", Texts.SMALL + ";crumb m", Texts.SMALL + ";gate t", "barrier fee 10",
            Texts.SMALL + ";gate h nose 1 opens 1 shuts 1;gate k nose 1 opens 1 shuts 1;gate", "means"};
        for (int fault = 1; fault <= 6; fault++) {
            Texts.tell(x, texts[fault - 1]);
            EDGES.due(x, fault, "fault");
            x.barrier(-1);
            EDGES.due(x, fault, "fault");
            x.barrier(1);
            EDGES.due(x, fault, "fault");
            x.judge();
            EDGES.due(x, fault, "fault");
        }
        EDGES.promise(4, "0 without one.");
        Texts.tell(x, Texts.SMALL);
        EDGES.due(x, 0, "fault");
        x.barrier(7);
        EDGES.due(x, 0, "fault");
        SaltedGate y = new SaltedGate();
        EDGES.due(y, 0, "fault");
        y.barrier(1);
        EDGES.due(y, 0, "fault");
        EDGES.same("barrier(0)", y.barrier(0), -1);
        EDGES.due(y, 1, "fault");
    }

    private static void promise5() {
        EDGES.promise(5, "Its place, if the latest call that may be refused was by 4;");
        SaltedGate x = Texts.told(Texts.FULL);
        Texts.tell(x, Texts.SMALL + ";odd");
        int place = Texts.SMALL.length() + 1;
        EDGES.due(x, place, "where");
        EDGES.due(x, place, "where");
        EDGES.due(x, 20, "feed", 0, 0, 0, 0, 0);
        EDGES.due(x, place, "where");
        EDGES.due(x, -1, "size", 99);
        EDGES.due(x, Calls.THROWS, "led", 99);
        EDGES.due(x, 1, "fault");
        EDGES.due(x, 4, "trouble");
        EDGES.due(x, place, "where");
        SaltedGate y = new SaltedGate();
        y.barrier(0);
        EDGES.due(y, 0, "where");
        String full = Texts.SMALL + " ".repeat(1099 - Texts.SMALL.length());
        Texts.tell(y, full + ";");
        EDGES.due(y, 1100, "where");
        Texts.tell(y, full + "@");
        EDGES.due(y, 1099, "where");

        EDGES.promise(5, "NONE else.");
        EDGES.due(new SaltedGate(), -1, "where");
        for (String call : NEED_BARRIER) {
            SaltedGate z = new SaltedGate();
            Texts.tell(z, "odd");
            EDGES.due(z, 0, "where");
            Calls.call(z, call.split(" ")[0], numbers(call));
            EDGES.same("where() behind " + call + ", refused", z.where(), -1);
            SaltedGate w = Texts.told(Texts.FULL);
            Texts.tell(w, "odd");
            EDGES.due(w, 0, "where");
            Calls.call(w, call.split(" ")[0], numbers(call));
            EDGES.same("where() behind " + call, w.where(), -1);
        }
        for (int n : new int[] {-1, 1}) {
            SaltedGate z = new SaltedGate();
            z.barrier(0);
            z.barrier(n);
            EDGES.same("where() behind a refusal by 2", z.where(), -1);
            EDGES.due(z, 1, "fault");
        }
        SaltedGate u = new SaltedGate();
        u.barrier(0);
        u.undo();
        EDGES.same("where() behind undo()", u.where(), -1);
        Texts.tell(u, Texts.SMALL);
        EDGES.due(u, -1, "where");
    }

    private static void promise6() {
        EDGES.promise(6, "Of a good 0 KIND (0 fresh, 1 plain, 2 wine, 3 old, 4 oath), 1 its means (-2 fresh), 2 whose it is, 3 what it weighs,");
        SaltedGate x = Scenes.fullest();
        int[][] rows = {{0, -2, 0, 1}, {1, 0, 0, 2}, {2, 2, 1, 3}, {3, 0, 1, 9}, {4, 1, 2, 2}, {1, 3, 3, 4}, {1, 0, 3, 5},
            {0, -2, 3, 9}};
        for (int g = 0; g < 8; g++) {
            for (int what = 0; what < 4; what++) {
                EDGES.due(x, rows[g][what], "good", g, what);
            }
        }
        EDGES.promise(6, "4 what became of it (0 he HAS it, 1 eaten, 2 over, 3 seized),");
        SaltedGate y = Texts.told(Texts.FULL);
        EDGES.due(y, 0, "good", 0, 4);
        y.eat(0);
        EDGES.due(y, 1, "good", 0, 4);
        y.cross(0, 0);
        EDGES.due(y, 1, "good", 0, 4);
        EDGES.due(y, 2, "good", 1, 4);
        EDGES.due(y, 2, "good", 2, 4);
        y.cross(1, 0);
        EDGES.due(y, 3, "good", 3, 4);
        EDGES.due(y, 2, "good", 4, 4);

        EDGES.promise(6, "5 1 if it is hidden.");
        SaltedGate z = Texts.told(Texts.FULL);
        EDGES.due(z, 0, "good", 0, 5);
        EDGES.due(z, 1, "good", 1, 5);
        z.hide(0, true);
        z.hide(1, false);
        EDGES.due(z, 1, "good", 0, 5);
        EDGES.due(z, 0, "good", 1, 5);

        EDGES.promise(6, "NONE: 1.");
        EDGES.bounds(Scenes::midst, 1, "good", new int[] {0, 0}, 0, 0, 4);
        EDGES.bounds(Scenes::fullest, 1, "good", new int[] {0, 5}, 0, 0, 7);
        EDGES.bounds(Scenes::midst, 1, "good", new int[] {0, 0}, 1, 0, 5);
        EDGES.refused(Scenes::small, 1, "good", 0, 0);
        EDGES.refused(Scenes::fullest, 1, "good", 8, 6);
    }

    private static void promise7() {
        EDGES.promise(7, "Of a traveller 0 allowed, 1 how much hunger is left, 2 PAID in all, 3 what he HAS, as bits.");
        SaltedGate x = Scenes.fullest();
        int[][] rows = {{0, 0, 0, 3}, {99, 3, 0, 12}, {10, 1, 0, 16}, {5, 2, 0, 224}};
        for (int t = 0; t < 4; t++) {
            for (int what = 0; what < 4; what++) {
                EDGES.due(x, rows[t][what], "traveller", t, what);
            }
        }
        EDGES.due(x, 1, "eat", 5);
        EDGES.due(x, 1, "traveller", 3, 1);
        EDGES.due(x, 1, "eat", 7);
        EDGES.due(x, 0, "traveller", 3, 1);
        EDGES.due(x, 64, "traveller", 3, 3);
        EDGES.due(x, 5, "traveller", 3, 0);
        EDGES.due(x, 3 * 150, "cross", 3, 0);
        EDGES.due(x, 0, "traveller", 3, 3);
        EDGES.due(x, 0, "traveller", 3, 1);
        EDGES.due(x, 450, "traveller", 3, 2);
        EDGES.due(x, 0, "traveller", 2, 2);
        EDGES.due(Scenes.small(), 0, "traveller", 0, 3);

        EDGES.promise(7, "NONE: 1.");
        EDGES.bounds(Scenes::midst, 1, "traveller", new int[] {0, 0}, 0, 0, 1);
        EDGES.bounds(Scenes::fullest, 1, "traveller", new int[] {0, 3}, 0, 0, 3);
        EDGES.bounds(Scenes::small, 1, "traveller", new int[] {0, 0}, 0, 0, 0);
        EDGES.bounds(Scenes::midst, 1, "traveller", new int[] {0, 0}, 1, 0, 3);
    }

    private static void promise8() {
        EDGES.promise(8, "Of a gate 0 nose, 1 opens, 2 shuts.");
        SaltedGate x = Scenes.fullest();
        int[][] rows = {{1, 0, 23}, {99, 23, 23}, {20, 8, 18}};
        for (int k = 0; k < 3; k++) {
            for (int what = 0; what < 3; what++) {
                EDGES.due(x, rows[k][what], "gate", k, what);
            }
        }
        EDGES.promise(8, "NONE: 1.");
        EDGES.bounds(Scenes::midst, 1, "gate", new int[] {0, 0}, 0, 0, 1);
        EDGES.bounds(Scenes::fullest, 1, "gate", new int[] {0, 0}, 0, 0, 2);
        EDGES.bounds(Scenes::small, 1, "gate", new int[] {0, 0}, 0, 0, 0);
        EDGES.bounds(Scenes::fullest, 1, "gate", new int[] {2, 0}, 1, 0, 2);
    }
}
