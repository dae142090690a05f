import java.util.ArrayList;
import java.util.List;
import java.util.Random;

/** Makes texts by chance: mostly BARRIERS, some of them spoiled. */
final class TextMaker {
    private final Random random;
    private final List<String> lines = new ArrayList<>();
    private final List<String> means = new ArrayList<>();
    private final List<String> travellers = new ArrayList<>();
    private final List<String> gates = new ArrayList<>();
    private final List<String> goods = new ArrayList<>();

    TextMaker(Random random) {
        this.random = random;
    }

    String text() {
        lines.clear();
        means.clear();
        travellers.clear();
        gates.clear();
        goods.clear();
        lines.add("barrier fee " + upTo(9) + " interest " + upTo(50));
        for (int i = 0, n = upTo(4); i < n; i++) {
            means.add("m" + letter(i));
            lines.add("means m" + letter(i) + " rate " + upTo(9) + " or " + upTo(9) + " keeps " + (1 + near(60, 299)));
        }
        for (int i = 0, n = 1 + upTo(3); i < n; i++) {
            travellers.add("t" + letter(i));
            lines.add("traveller t" + letter(i) + " allow " + near(20, 99) + " hunger " + upTo(3));
        }
        for (int i = 0, n = 1 + upTo(2); i < n; i++) {
            gates.add("g" + letter(i));
            int opens = upTo(23);
            lines.add("gate g" + letter(i) + " nose " + (1 + near(20, 98)) + " opens " + opens + " shuts " + (opens + upTo(23 - opens)));
        }
        for (int i = 0, n = upTo(8); i < n; i++) {
            addGood(i);
        }
        addRest();
        return String.join(";", lines);
    }

    private void addGood(int i) {
        goods.add("x" + letter(i));
        String head = "good x" + letter(i) + " ";
        boolean fresh = means.isEmpty() || upTo(3) == 0;
        String how = fresh ? "fresh " + one(travellers)
                : one(List.of("plain", "wine", "old", "oath")) + " " + one(travellers) + " by " + one(means);
        lines.add(head + how + " age " + near(fresh ? 4 : 60, 300) + " weighs " + (1 + upTo(8)) + " worth " + upTo(99));
    }

    private void addRest() {
        for (String good : goods) {
            if (random.nextBoolean()) {
                lines.add("hides " + good);
            }
        }
        int day = 0;
        for (int i = 0, n = upTo(6); i < n; i++) {
            day += upTo(Math.min(15, 60 - day));
            lines.add("crosses " + one(travellers) + " " + one(gates) + " day " + day + " hour " + upTo(23));
        }
        for (String by : means) {
            if (random.nextBoolean()) {
                lines.add("price " + by + " here " + upTo(99) + " there " + upTo(99));
            }
        }
        for (int i = 0, n = means.isEmpty() ? 0 : upTo(5); i < n; i++) {
            lines.add("crumb " + one(means) + " day " + near(4, 60));
        }
    }

    /** One thing about a text is made another: a byte, a TOKEN, a LINE, its end. */
    String spoiled(String text) {
        List<String> tokens = new ArrayList<>(List.of(text.replace(";", " ; ").split(" +")));
        int at = upTo(tokens.size() - 1);
        switch (upTo(7)) {
            case 0:
                return text.substring(0, upTo(text.length()));
            case 1:
                int byteAt = upTo(text.length() - 1);
                return text.substring(0, byteAt) + (char) upTo(255) + text.substring(byteAt + 1);
            case 2:
                tokens.remove(at);
                break;
            case 3:
                tokens.add(at, tokens.get(upTo(tokens.size() - 1)));
                break;
            case 4:
                tokens.set(at, one(List.of("0", "9", "10", "24", "60", "61", "99", "100", "301", "999", "1000", "007")));
                break;
            case 5:
                tokens.set(at, tokens.get(upTo(tokens.size() - 1)));
                break;
            case 6:
                String[] parts = text.split(";");
                return text + ";" + parts[upTo(parts.length - 1)];
            default:
                String[] all = text.split(";");
                int i = upTo(all.length - 1);
                int j = upTo(all.length - 1);
                String line = all[i];
                all[i] = all[j];
                all[j] = line;
                return String.join(";", all);
        }
        return String.join(upTo(1) == 0 ? " " : "  ", tokens);
    }

    int upTo(int most) {
        return random.nextInt(most + 1);
    }

    private int near(int often, int most) {
        return random.nextInt(4) == 0 ? upTo(most) : upTo(often);
    }

    private String one(List<String> list) {
        return list.get(random.nextInt(list.size()));
    }

    private static char letter(int i) {
        return (char) ('a' + i);
    }
}
