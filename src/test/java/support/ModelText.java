import java.util.ArrayList;
import java.util.HashMap;
import java.util.List;
import java.util.Map;
import java.util.Set;
import java.util.regex.Matcher;
import java.util.regex.Pattern;

/**
 * A text of a BARRIER read another way than the class reads it: by a table of what stands in each
 * LINE. In it 'word' stands for itself, '+sort' for a new NAME, '@sort' for a told one, '0-9' for a
 * WHOLE between bounds.
 */
final class ModelText {
    static final Set<String> LINES = Set.of("barrier", "means", "traveller", "gate", "good", "hides",
            "crosses", "price", "crumb");
    private static final Map<String, String> FORMS = Map.of(
            "barrier", "fee 0-9 interest 0-50",
            "means", "+means rate 0-9 or 0-9 keeps 1-300",
            "traveller", "+traveller allow 0-99 hunger 0-3",
            "gate", "+gate nose 1-99 opens 0-23 shuts *-23",
            "hides", "@good",
            "crosses", "@traveller @gate day *-60 hour 0-23",
            "price", "@means here 0-99 there 0-99",
            "crumb", "@means day 0-60");
    private static final Map<String, Integer> ROOM = Map.of("means", 4, "traveller", 4, "gate", 3, "good", 8,
            "crosses", 6, "crumb", 5);
    private static final Pattern TOKEN = Pattern.compile("[a-z]+|[0-9]+|.", Pattern.DOTALL);

    /** Rows by the first word of their LINE, the numbers of each in the order of the text. */
    final Map<String, List<int[]>> rows = new HashMap<>();
    final List<String> kinds = new ArrayList<>();
    int fault;
    int place;

    private final List<String> tokens = new ArrayList<>();
    private final List<Integer> places = new ArrayList<>();
    private final Map<String, int[]> names = new HashMap<>();
    private final List<String> sorts = List.of("means", "traveller", "gate", "good");
    private int at;

    private static final class Stop extends RuntimeException {
        private static final long serialVersionUID = 1;
    }

    ModelText(String text) {
        for (String line : LINES) {
            rows.put(line, new ArrayList<>());
        }
        Matcher matcher = TOKEN.matcher(text);
        while (matcher.find()) {
            if (!matcher.group().equals(" ")) {
                tokens.add(matcher.group());
                places.add(matcher.start());
            }
        }
        tokens.add("");
        places.add(text.length());
        try {
            readAll();
        } catch (Stop stop) {
            at = 0;
        }
    }

    List<int[]> of(String line) {
        return rows.get(line);
    }

    private void stop(int number) {
        fault = number;
        place = places.get(at);
        throw new Stop();
    }

    private String token() {
        return tokens.get(at);
    }

    private void readAll() {
        readLine();
        while (token().equals(";")) {
            at++;
            readLine();
        }
        if (!token().isEmpty()) {
            stop(1);
        }
        if (of("traveller").isEmpty() || of("gate").isEmpty()) {
            stop(6);
        }
    }

    private void readLine() {
        String line = token();
        if (!LINES.contains(line)) {
            stop(1);
        }
        boolean barrier = line.equals("barrier");
        boolean told = !of("barrier").isEmpty();
        if (barrier && told) {
            stop(3);
        }
        if (!barrier && !told) {
            stop(6);
        }
        if (ROOM.containsKey(line) && of(line).size() == ROOM.get(line)) {
            stop(5);
        }
        at++;
        List<Integer> numbers = new ArrayList<>();
        if (line.equals("good")) {
            readPart(line, "+good", numbers);
            String kind = token();
            if (!Set.of("fresh", "plain", "wine", "old", "oath").contains(kind)) {
                stop(1);
            }
            at++;
            kinds.add(kind);
            boolean fresh = kind.equals("fresh");
            readParts(line, fresh ? "@traveller" : "@traveller by @means", numbers);
            if (fresh) {
                numbers.add(-2);
            }
            readParts(line, "age 0-300 weighs 1-9 worth 0-99", numbers);
        } else {
            readParts(line, FORMS.get(line), numbers);
        }
        of(line).add(numbers.stream().mapToInt(Integer::intValue).toArray());
    }

    private void readParts(String line, String parts, List<Integer> numbers) {
        for (String part : parts.split(" ")) {
            readPart(line, part, numbers);
        }
    }

    private void readPart(String line, String part, List<Integer> numbers) {
        if (part.startsWith("+") || part.startsWith("@")) {
            readName(line, part, numbers);
        } else if (part.contains("-")) {
            readWhole(line, part, numbers);
        } else if (!token().equals(part)) {
            stop(1);
        }
        at++;
    }

    private void readName(String line, String part, List<Integer> numbers) {
        String name = token();
        String sort = part.substring(1);
        boolean never = LINES.contains(name) || name.equals("fresh") || name.equals("by");
        if (!name.matches("[a-z]{1,9}") || never) {
            stop(1);
        }
        if (part.startsWith("+")) {
            if (names.containsKey(name)) {
                stop(3);
            }
            names.put(name, new int[] {sorts.indexOf(sort), of(sort).size()});
            return;
        }
        if (!names.containsKey(name) || names.get(name)[0] != sorts.indexOf(sort)) {
            stop(2);
        }
        int number = names.get(name)[1];
        if (line.equals("hides") || line.equals("price")) {
            for (int[] row : of(line)) {
                if (row[0] == number) {
                    stop(3);
                }
            }
        }
        numbers.add(number);
    }

    private void readWhole(String line, String part, List<Integer> numbers) {
        if (!token().matches("[0-9]{1,3}")) {
            stop(1);
        }
        String[] bounds = part.split("-");
        int least = bounds[0].equals("*") ? leastSoFar(line, numbers) : Integer.parseInt(bounds[0]);
        int number = Integer.parseInt(token());
        if (number < least || number > Integer.parseInt(bounds[1])) {
            stop(4);
        }
        numbers.add(number);
    }

    private int leastSoFar(String line, List<Integer> numbers) {
        if (line.equals("gate")) {
            return numbers.get(1);
        }
        int least = 0;
        for (int[] row : of("crosses")) {
            least = Math.max(least, row[2]);
        }
        return least;
    }
}
