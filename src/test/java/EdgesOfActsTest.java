import java.util.List;
import java.util.function.Supplier;

/** Promises 42 to 51 and their Terms: acts, undoing, marks, what is told, at the edges that each sentence names. */
public final class EdgesOfActsTest {
    private static final String TERMS = "Terms III, acts";
    private static final Edges EDGES = Edges.ofPromises(42, 51, TERMS, "Terms IV");
    private static final String HEAD = "barrier fee 1 interest 5"
            + ";means m rate 3 or 2 keeps 50;means n rate 1 or 9 keeps 300"
            + ";traveller t allow 0 hunger 3;traveller u allow 0 hunger 0;traveller v allow 5 hunger 1"
            + ";gate g nose 10 opens 8 shuts 18;gate h nose 99 opens 0 shuts 0";
    /** t has a, b, c, d, of smells 10, 9, 11 and 1; u has e; v has f and i. */
    private static final String GOODS = ";good a oath t by n age 10 weighs 9 worth 1;good b oath t by n age 10 weighs 8 worth 1"
            + ";good c oath t by n age 20 weighs 9 worth 1;good d oath t by n age 0 weighs 1 worth 1;good e oath u by n age 10 weighs 9 worth 1"
            + ";good f oath v by n age 50 weighs 1 worth 1;good i oath v by n age 10 weighs 1 worth 1;hides a;hides b";

    public static void main(String[] args) {
        acts();
        promise42();
        promise43();
        promise44();
        promise45();
        undoing();
        promise46();
        marking();
        promise48();
        nowAtFirst();
        promise49();
        promise50();
        troubles();
        EDGES.end();
    }

    private static SaltedGate scene() {
        return Texts.told(HEAD + GOODS);
    }

    /** A scene behind some ACTS. */
    private static Supplier<SaltedGate> behind(String... calls) {
        return () -> {
            SaltedGate x = scene();
            for (String call : calls) {
                String[] parts = call.split(" ");
                int[] numbers = new int[parts.length - 1];
                for (int i = 1; i < parts.length; i++) {
                    numbers[i - 1] = Integer.parseInt(parts[i]);
                }
                Calls.call(x, parts[0], numbers);
            }
            return x;
        };
    }

    private static void acts() {
        EDGES.says(TERMS, "ACTS: EAT, HIDE or show, CROSS by a gate (where nothing is drawn; whatever hour), DAYS go by.");
        SaltedGate x = scene();
        EDGES.due(x, 1, "eat", 0);
        EDGES.due(x, 1, "size", 10);
        EDGES.due(x, 1, "hide", 2, 1);
        EDGES.due(x, 2, "size", 10);
        EDGES.due(x, 1, "hide", 2, 0);
        EDGES.due(x, 3, "size", 10);
        EDGES.due(x, 9, "cross", 1, 0);
        EDGES.due(x, 4, "size", 10);
        EDGES.due(x, 1, "days", 1);
        EDGES.due(x, 5, "size", 10);
        for (String call : new String[] {"asked 0 0 0", "eats 0 0 0", "hideBest 0 0 0", "judge", "season 7", "seizedIn 0 7 50", "planOver 1", "mark", "bestGood"}) {
            SaltedGate y = behind("eat 0", call).get();
            EDGES.same("ACTS behind " + call, y.size(10), 1);
        }
        // nothing is drawn: the same goods are found each time, by the nose alone, though h is open at 0 only
        for (int again = 0; again < 3; again++) {
            SaltedGate y = scene();
            y.season(again);
            EDGES.due(y, 18, "cross", 0, 1);
            EDGES.due(y, 2, "good", 0, 4);
            y.undo();
            EDGES.due(y, 3 * 9 + 18, "cross", 0, 0);
            EDGES.due(y, 3, "good", 0, 4);
        }
    }

    private static void promise42() {
        EDGES.promise(42, "EAT: true;");
        SaltedGate x = scene();
        EDGES.due(x, 1, "eat", 0);
        EDGES.due(x, 1, "good", 0, 4);
        EDGES.due(x, 2, "traveller", 0, 1);
        EDGES.due(x, 14, "traveller", 0, 3);
        EDGES.due(x, 1, "eat", 1);
        EDGES.due(x, 1, "eat", 3);
        EDGES.due(x, 0, "traveller", 0, 1);
        EDGES.due(x, 4, "traveller", 0, 3);
        EDGES.due(x, 1, "eat", 6);
        EDGES.promise(42, "false: 1; 5 (he hasn't it, his hunger is over).");
        EDGES.due(Scenes.fullest(), 1, "eat", 7);
        EDGES.refused(Scenes::fullest, 1, "eat", 8);
        EDGES.refused(Scenes::fullest, 1, "eat", Integer.MAX_VALUE);
        EDGES.refused(Scenes::fullest, 1, "eat", Integer.MIN_VALUE);
        EDGES.refused(EdgesOfActsTest::scene, 1, "eat", -1);
        EDGES.refused(EdgesOfActsTest::scene, 1, "eat", 7);
        EDGES.refused(Scenes::small, 1, "eat", 0);
        EDGES.refused(Scenes::without, 1, "eat", 0);
        EDGES.refused(behind("eat 0"), 5, "eat", 0);
        EDGES.refused(behind("cross 0 0"), 5, "eat", 0);
        EDGES.refused(behind("cross 0 0"), 5, "eat", 2);
        EDGES.refused(EdgesOfActsTest::scene, 5, "eat", 4);
        EDGES.refused(behind("eat 0", "eat 1", "eat 2"), 5, "eat", 3);
        EDGES.refused(behind("eat 5"), 5, "eat", 6);
        EDGES.due(behind("eat 0", "eat 1").get(), 1, "eat", 2);
    }

    private static void promise43() {
        EDGES.promise(43, "HIDE, or show (not is): true;");
        SaltedGate x = scene();
        EDGES.due(x, 1, "hide", 0, 0);
        EDGES.due(x, 0, "good", 0, 5);
        EDGES.due(x, 1, "good", 1, 5);
        EDGES.due(x, 1, "hide", 0, 1);
        EDGES.due(x, 1, "good", 0, 5);
        EDGES.due(x, 1, "hide", 6, 1);
        EDGES.due(x, 1, "good", 6, 5);
        EDGES.due(x, 0, "good", 5, 5);
        EDGES.promise(43, "false: 1; 5 (it is so, he hasn't it).");
        for (int is = 0; is <= 1; is++) {
            EDGES.refused(EdgesOfActsTest::scene, 1, "hide", -1, is);
            EDGES.refused(EdgesOfActsTest::scene, 1, "hide", 7, is);
            EDGES.refused(EdgesOfActsTest::scene, 1, "hide", Integer.MAX_VALUE, is);
            EDGES.refused(EdgesOfActsTest::scene, 1, "hide", Integer.MIN_VALUE, is);
            EDGES.refused(Scenes::fullest, 1, "hide", 8, is);
            EDGES.refused(Scenes::small, 1, "hide", 0, is);
            EDGES.refused(Scenes::without, 1, "hide", 0, is);
            for (int g : new int[] {0, 2}) {
                EDGES.refused(behind("eat " + g), 5, "hide", g, is);
                EDGES.refused(behind("cross 0 0"), 5, "hide", g, is);
                EDGES.refused(behind("cross 0 1"), 5, "hide", g, is);
            }
        }
        EDGES.refused(EdgesOfActsTest::scene, 5, "hide", 0, 1);
        EDGES.refused(EdgesOfActsTest::scene, 5, "hide", 2, 0);
        EDGES.refused(behind("hide 0 0"), 5, "hide", 0, 0);
        EDGES.refused(behind("hide 2 1"), 5, "hide", 2, 1);
        EDGES.due(Scenes.fullest(), 1, "hide", 7, 0);
    }

    private static void promise44() {
        EDGES.promise(44, "CROSS: what is asked.");
        SaltedGate x = scene();
        EDGES.due(x, 27 + 18, "cross", 0, 0);
        int[] fates = {3, 2, 2, 2, 0, 0, 0};
        for (int g = 0; g < fates.length; g++) {
            EDGES.due(x, fates[g], "good", g, 4);
        }
        EDGES.due(x, 45, "traveller", 0, 2);
        EDGES.due(x, 0, "traveller", 1, 2);
        EDGES.due(x, 5 + 1 - 5, "cross", 2, 1);
        EDGES.due(x, 1, "traveller", 2, 2);
        SaltedGate later = behind("days 9").get();
        EDGES.due(later, 27 + 18, "cross", 0, 0);
        SaltedGate last = behind("days 10").get();
        EDGES.due(last, 3 * (18 + 16) + 27 + 1, "cross", 0, 0);
        EDGES.promise(44, "NONE: 1; 5 (he HAS nothing).");
        EDGES.refused(EdgesOfActsTest::scene, 1, "cross", -1, 0);
        EDGES.refused(EdgesOfActsTest::scene, 1, "cross", 3, 0);
        EDGES.refused(EdgesOfActsTest::scene, 1, "cross", 0, -1);
        EDGES.refused(EdgesOfActsTest::scene, 1, "cross", 0, 2);
        EDGES.bounds(Scenes::fullest, 1, "cross", new int[] {0, 0}, 0, 0, 3);
        EDGES.bounds(Scenes::fullest, 1, "cross", new int[] {3, 0}, 1, 0, 2);
        EDGES.refused(Scenes::without, 1, "cross", 0, 0);
        EDGES.refused(Scenes::small, 5, "cross", 0, 0);
        EDGES.refused(Scenes::small, 1, "cross", 0, 1);
        EDGES.refused(behind("cross 0 0"), 5, "cross", 0, 0);
        EDGES.refused(behind("cross 0 0"), 5, "cross", 0, 1);
        EDGES.refused(behind("cross 0 0"), 1, "cross", 0, 2);
        EDGES.refused(behind("cross 0 0"), 1, "cross", 3, 0);
        SaltedGate one = Texts.told(Texts.SMALL + ";good x fresh t age 0 weighs 1 worth 1");
        one.eat(0);
        EDGES.same("cross() of one who has eaten all", one.cross(0, 0), -1);
        EDGES.due(one, 5, "trouble");
        EDGES.due(one, 1, "size", 10);
    }

    private static SaltedGate onDay(int day) {
        SaltedGate x = scene();
        for (int left = day; left > 0; left -= 60) {
            x.days(Math.min(left, 60));
        }
        return x;
    }

    private static void promise45() {
        EDGES.promise(45, "DAYS (1 .. 60): the day then.");
        SaltedGate x = scene();
        EDGES.due(x, 1, "days", 1);
        EDGES.due(x, 61, "days", 60);
        EDGES.due(x, 61, "size", 9);
        EDGES.due(x, 71, "age", 0, 0);
        EDGES.promise(45, "NONE: 1 (no BARRIER); 2; 3 (above 300).");
        EDGES.bounds(EdgesOfActsTest::scene, 2, "days", new int[] {1}, 0, 1, 60);
        EDGES.refused(Scenes::without, 1, "days", 1);
        EDGES.refused(Scenes::without, 1, "days", 0);
        EDGES.refused(Scenes::without, 1, "days", 61);
        EDGES.due(onDay(240), 300, "days", 60);
        EDGES.refused(() -> onDay(241), 3, "days", 60);
        EDGES.due(onDay(241), 300, "days", 59);
        EDGES.due(onDay(299), 300, "days", 1);
        EDGES.refused(() -> onDay(299), 3, "days", 2);
        EDGES.refused(() -> onDay(300), 3, "days", 1);
        EDGES.refused(() -> onDay(300), 3, "days", 60);
        EDGES.refused(() -> onDay(300), 2, "days", 0);
        EDGES.refused(() -> onDay(300), 2, "days", 61);
        EDGES.refused(() -> onDay(300), 2, "days", Integer.MAX_VALUE);
        EDGES.refused(() -> onDay(300), 2, "days", Integer.MIN_VALUE);
        EDGES.refused(Scenes::late, 3, "days", 1);
    }

    private static void undoing() {
        EDGES.says(TERMS, "UNDO: the latest (16 are kept).");
        for (int many : new int[] {1, 15, 16, 17, 18, 33}) {
            SaltedGate x = scene();
            for (int i = 1; i <= many; i++) {
                x.days(i % 2 == 0 ? 2 : 5);
                EDGES.due(x, Math.min(i, 16), "size", 10);
            }
            int day = x.size(9);
            for (int i = many; i > Math.max(0, many - 16); i--) {
                EDGES.due(x, 1, "undo");
                day -= i % 2 == 0 ? 2 : 5;
                EDGES.due(x, day, "size", 9);
            }
            EDGES.same("undo() of what isn't kept", x.undo() ? 1 : 0, 0);
            EDGES.due(x, 6, "trouble");
            EDGES.due(x, day, "size", 9);
            EDGES.due(x, 0, "size", 10);
            EDGES.due(x, day + 7, "days", 7);
            EDGES.due(x, 1, "undo");
            EDGES.due(x, day, "size", 9);
        }
        // each kind of ACT is undone whole, and one that was undone makes room for another
        String[] calls = {"eat 2", "hide 2 1", "hide 0 0", "cross 0 0", "cross 0 1", "days 7"};
        for (String call : calls) {
            SaltedGate undone = behind(call).get();
            EDGES.due(undone, 1, "undo");
            EDGES.is(call + " is undone", Snapshot.of(undone).equals(Snapshot.of(scene())));
            SaltedGate after = behind("days 3", "mark", "eat 5", call, "undo").get();
            EDGES.is(call + " is undone behind others", Snapshot.of(after).equals(Snapshot.of(behind("days 3", "mark", "eat 5").get())));
        }
        // what others paid stays as it was
        SaltedGate paid = behind("cross 2 1", "cross 1 0", "cross 0 0", "mark", "days 1", "undo").get();
        int[] sums = {45, 9, 1};
        for (int back = 0; back <= 3; back++) {
            for (int t = 0; t < 3; t++) {
                EDGES.due(paid, t < back ? 0 : sums[t], "traveller", t, 2);
            }
            EDGES.same("undo()", paid.undo() ? 1 : 0, back < 3 ? 1 : 0);
        }
        EDGES.due(paid, 1, "back", 0);
        for (int t = 0; t < 3; t++) {
            EDGES.due(paid, sums[t], "traveller", t, 2);
        }
        EDGES.is("undone, then another", Snapshot.of(behind("eat 0", "eat 1", "undo", "eat 2").get())
                .equals(Snapshot.of(behind("eat 0", "eat 2").get())));
    }

    private static void promise46() {
        EDGES.promise(46, "UNDO: true;");
        EDGES.due(behind("eat 0").get(), 1, "undo");
        EDGES.due(Scenes.late(), 1, "undo");
        EDGES.promise(46, "false: 6.");
        EDGES.refused(Scenes::without, 6, "undo");
        EDGES.refused(Scenes::small, 6, "undo");
        EDGES.refused(EdgesOfActsTest::scene, 6, "undo");
        EDGES.refused(behind("eat 0", "undo"), 6, "undo");
        EDGES.refused(behind("mark"), 6, "undo");
        EDGES.refused(behind("mark", "eat 0", "back 0"), 6, "undo");
        EDGES.refused(behind("eat 4", "cross 9 9", "days 0", "hide 0 1"), 6, "undo");
    }

    private static void marking() {
        EDGES.says(TERMS, "MARKS: up to 3; gone back to one, nothing can be undone.");
        EDGES.promise(47, "A MARK: its number.");
        SaltedGate x = scene();
        for (int mark = 0; mark < 3; mark++) {
            EDGES.due(x, mark, "mark");
            EDGES.due(x, mark + 1, "size", 11);
            x.days(1);
        }
        EDGES.due(x, 3, "size", 10);
        EDGES.promise(47, "NONE: 1 (no BARRIER); 3.");
        EDGES.refused(behind("mark", "days 1", "mark", "days 1", "mark", "days 1"), 3, "mark");
        EDGES.refused(behind("mark", "mark", "mark", "back 1"), 3, "mark");
        EDGES.refused(Scenes::late, 3, "mark");
        EDGES.refused(Scenes::without, 1, "mark");
        EDGES.due(behind("mark", "mark").get(), 2, "mark");
        EDGES.due(behind("mark", "mark", "back 0").get(), 2, "mark");
        SaltedGate again = behind("mark", "mark", "mark").get();
        Texts.tell(again, Texts.SMALL);
        EDGES.due(again, 0, "mark");
    }

    private static void promise48() {
        EDGES.promise(48, "All is as by a MARK (all MARKS stay): true;");
        SaltedGate x = behind("eat 0", "hide 2 1", "mark", "cross 0 0", "days 9", "mark", "eat 5", "mark", "days 60").get();
        EDGES.due(x, 6, "size", 10);
        EDGES.due(x, 1, "back", 1);
        EDGES.due(x, 9, "size", 9);
        EDGES.due(x, 0, "size", 10);
        EDGES.due(x, 3, "size", 11);
        EDGES.due(x, 0, "good", 5, 4);
        EDGES.due(x, 0, "traveller", 0, 3);
        EDGES.due(x, 3 * 18, "traveller", 0, 2);
        EDGES.due(x, 1, "back", 2);
        EDGES.due(x, 1, "good", 5, 4);
        EDGES.due(x, 9, "size", 9);
        EDGES.due(x, 1, "back", 0);
        EDGES.due(x, 0, "size", 9);
        EDGES.due(x, 14, "traveller", 0, 3);
        EDGES.due(x, 1, "good", 2, 5);
        EDGES.due(x, 0, "traveller", 0, 2);
        EDGES.due(x, 2, "traveller", 0, 1);
        EDGES.due(x, 3, "size", 11);
        EDGES.due(x, 0, "size", 10);
        EDGES.due(x, 1, "eat", 1);
        EDGES.due(x, 1, "size", 10);
        EDGES.due(x, 1, "back", 0);
        EDGES.due(x, 0, "good", 1, 4);
        EDGES.due(x, 1, "back", 0);
        EDGES.promise(48, "false: 1.");
        EDGES.refused(Scenes::without, 1, "back", 0);
        EDGES.refused(EdgesOfActsTest::scene, 1, "back", 0);
        EDGES.bounds(behind("mark", "eat 0"), 1, "back", new int[] {0}, 0, 0, 0);
        EDGES.bounds(behind("mark", "eat 0", "mark", "eat 1"), 1, "back", new int[] {0}, 0, 0, 1);
        EDGES.bounds(Scenes::late, 1, "back", new int[] {0}, 0, 0, 2);
    }

    private static void nowAtFirst() {
        EDGES.says(TERMS, "NOW is day 0 at first.");
        EDGES.due(scene(), 0, "size", 9);
        EDGES.due(scene(), 10, "age", 0, 0);
        SaltedGate x = onDay(300);
        Texts.tell(x, HEAD + GOODS);
        EDGES.due(x, 0, "size", 9);
        EDGES.due(x, 10, "age", 0, 0);
    }

    private static void promise49() {
        EDGES.promise(49, "The i-th good, by numbers, that is TURNED NOW.");
        String goods = ";good a plain t by m age 50 weighs 1 worth 1;good b plain t by m age 51 weighs 1 worth 1;good c oath t by m age 300 weighs 1 worth 1"
                + ";good d fresh u age 3 weighs 1 worth 1;good e fresh u age 4 weighs 1 worth 1;good f wine v by n age 300 weighs 1 worth 1;hides b";
        SaltedGate x = Texts.told(HEAD + goods);
        EDGES.due(x, 1, "led", 0);
        EDGES.due(x, 4, "led", 1);
        EDGES.due(x, Calls.THROWS, "led", 2);
        x.days(1);
        int[] turned = {0, 1, 3, 4, 5};
        for (int i = 0; i < turned.length; i++) {
            EDGES.due(x, turned[i], "led", i);
        }
        x.eat(0);
        x.cross(2, 0);
        x.cross(0, 0);
        for (int i = 0; i < turned.length; i++) {
            EDGES.due(x, turned[i], "led", i);
        }
        x.undo();
        EDGES.promise(49, "NoSuchElementException if there is none such.");
        for (int i : new int[] {-1, 5, 6, 8, Integer.MAX_VALUE, Integer.MIN_VALUE}) {
            EDGES.due(x, Calls.THROWS, "led", i);
        }
        for (int i : new int[] {-1, 0, 1}) {
            EDGES.due(scene(), Calls.THROWS, "led", i);
            EDGES.due(new SaltedGate(), Calls.THROWS, "led", i);
            EDGES.due(Scenes.small(), Calls.THROWS, "led", i);
        }
        SaltedGate all = Scenes.late();
        int[] eight = {0, 1, 2, 3, 5, 6, 7};
        for (int i = 0; i < eight.length; i++) {
            EDGES.due(all, eight[i], "led", i);
        }
        EDGES.due(all, Calls.THROWS, "led", 7);
        StringBuilder fresh = new StringBuilder(HEAD);
        for (int g = 0; g < 8; g++) {
            fresh.append(";good n").append((char) ('a' + g)).append(" fresh t age 4 weighs 1 worth 1");
        }
        SaltedGate full = Texts.told(fresh.toString());
        for (int i = 0; i < 8; i++) {
            EDGES.due(full, i, "led", i);
        }
        EDGES.due(full, Calls.THROWS, "led", 8);
        // what throws leaves all as it was
        SaltedGate same = Scenes.midst();
        Calls.call(same, "led", 99);
        EDGES.is("led(99) leaves all as it was", Snapshot.of(same).equals(Snapshot.of(Scenes.midst())));
    }

    private static void promise50() {
        EDGES.promise(50, "0 fee, 1 interest, 2 means, 3 travellers, 4 gates, 5 goods, 6 crossings, 7 prices, 8 crumbs, 9 the day NOW, 10 ACTS that can be undone, 11 MARKS, 12 bytes of THE TAPE.");
        SaltedGate full = Scenes.late();
        Texts.feedAll(full, Texts.SMALL);
        sizes(full, 9, 50, 4, 4, 3, 8, 6, 4, 5, 300, 16, 3, 100);
        sizes(Scenes.midst(), 2, 10, 2, 2, 2, 5, 3, 2, 2, 6, 5, 1, 20);
        sizes(Scenes.small(), 2, 10, 0, 1, 1, 0, 0, 0, 0, 0, 0, 0, 0);
        sizes(Texts.told("barrier fee 0 interest 0;gate g nose 1 opens 0 shuts 0;traveller t allow 0 hunger 0"), 0, 0, 0, 1, 1, 0, 0, 0, 0, 0, 0, 0, 0);
        EDGES.promise(50, "NONE for others; 0 for what there isn't.");
        for (int what : new int[] {-1, 13, Integer.MAX_VALUE, Integer.MIN_VALUE}) {
            EDGES.due(Scenes.midst(), -1, "size", what);
            EDGES.due(new SaltedGate(), -1, "size", what);
        }
        sizes(new SaltedGate(), 0, 0, 0, 0, 0, 0, 0, 0, 0, 0, 0, 0, 0);
        SaltedGate faulty = new SaltedGate();
        Texts.tell(faulty, Scenes.FULLEST + ";odd");
        EDGES.due(faulty, 1, "fault");
        sizes(faulty, 0, 0, 0, 0, 0, 0, 0, 0, 0, 0, 0, 0, 0);
    }

    private static void sizes(SaltedGate x, int... want) {
        for (int what = 0; what < want.length; what++) {
            EDGES.due(x, want[what], "size", what);
        }
    }

    private static void troubles() {
        EDGES.terms("IV", "IV. TROUBLE of the latest call that may be refused (those of which a number is told here): 0 it wasn't; 1 there is none such; 2 a number; 3 no room; 4 a FAULT; 5 not so; 6 there is none.");
        EDGES.promise(51, "TROUBLE.");
        EDGES.due(new SaltedGate(), 0, "trouble");
        String[] calls = {"judge", "good 9 9", "days 0", "mark", "barrier 0", "eat 4", "undo"};
        for (int number = 0; number < calls.length; number++) {
            // the third MARK stands, so there is no room for a fourth
            SaltedGate x = behind("mark", "mark", "mark", calls[number]).get();
            EDGES.due(x, number, "trouble");
            EDGES.due(x, number, "trouble");
            x.fault();
            x.where();
            x.size(0);
            x.size(99);
            Calls.call(x, "led", 0);
            Calls.call(x, "led", -1);
            EDGES.due(x, number, "trouble");
            for (int i = 0; i < 56; i++) {
                x.feed(0, 0, 0, 0, 0);
            }
            EDGES.due(x, -1, "feed", 0, 0, 0, 0, 0);
            EDGES.due(x, number, "trouble");
            EDGES.due(x, -2, "judge");
            for (String next : calls) {
                SaltedGate y = behind("mark", "mark", "mark", calls[number], next).get();
                EDGES.same(next + " behind " + calls[number], y.trouble(), List.of(calls).indexOf(next));
            }
        }
    }
}
