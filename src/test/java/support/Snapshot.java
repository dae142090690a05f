/** All that can be seen of an object, as a text, to tell whether a refused call left it as it was. */
final class Snapshot {
    private final SaltedGate x;
    private final int travellers;
    private final int goods;
    private final StringBuilder seen = new StringBuilder();

    private Snapshot(SaltedGate x) {
        this.x = x;
        travellers = x.size(3);
        goods = x.size(5);
    }

    /** Undoes and goes back, so the object is used up by it; some 430 calls at most. */
    static String of(SaltedGate x) {
        Snapshot shot = new Snapshot(x);
        shot.told();
        shot.fates();
        shot.now();
        while (x.undo()) {
            shot.seen.append("\nundone:");
            shot.now();
        }
        for (int mark = 0; x.back(mark); mark++) {
            shot.seen.append("\nmark:");
            shot.now();
        }
        return shot.seen.toString();
    }

    private void see(String name, int... numbers) {
        seen.append(' ').append(Calls.call(x, name, numbers));
    }

    private void told() {
        see("fault");
        for (int what = 0; what <= 12; what++) {
            see("size", what);
        }
        for (int g = 0; g < goods; g++) {
            see("good", g, 3);
            see("duty", g, 10);
        }
        for (int t = 0; t < travellers; t++) {
            see("traveller", t, 0);
        }
        for (int k = 0, many = x.size(4); k < many; k++) {
            see("gate", k, 0);
        }
        for (int k = 0, many = x.size(6); k < many; k++) {
            see("planned", k);
        }
        for (int c = 0, many = x.size(8); c < many; c++) {
            see("could", c);
        }
        see("season", 1);
    }

    private void fates() {
        for (int g = 0; g < goods; g++) {
            see("good", g, 4);
        }
        for (int t = 0; t < travellers; t++) {
            see("traveller", t, 1);
        }
    }

    private void now() {
        see("size", 9);
        for (int t = 0; t < travellers; t++) {
            see("traveller", t, 2);
            see("traveller", t, 3);
        }
        for (int g = 0; g < goods; g++) {
            see("good", g, 5);
        }
    }
}
