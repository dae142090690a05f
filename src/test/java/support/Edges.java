import java.io.IOException;
import java.io.UncheckedIOException;
import java.nio.file.Files;
import java.nio.file.Path;
import java.util.Arrays;
import java.util.LinkedHashMap;
import java.util.Map;
import java.util.function.Supplier;

/**
 * Answers that are due at the edges that the document names, each under the sentence that asks for it.
 * A sentence must stand in the document as it is quoted, and in the parts that a test has to do with
 * no word may be left that is quoted nowhere.
 */
final class Edges {
    private static final int[] FAR = {Integer.MIN_VALUE, Integer.MAX_VALUE};

    private final Map<String, String> parts = new LinkedHashMap<>();
    private final Map<String, boolean[]> quoted = new LinkedHashMap<>();
    private String sentence = "";
    private int wrong;
    private int asked;

    /** Of which parts the test is: 'Promise 7', 'Terms II', 'Terms III, acts', 'Use', 'Heads', 'Constants'. */
    Edges(String... names) {
        String document = document();
        for (String name : names) {
            String text = part(document, name);
            parts.put(name, text);
            quoted.put(name, new boolean[text.length()]);
        }
    }

    static Edges ofPromises(int first, int last, String... others) {
        int many = last - first + 1;
        String[] names = Arrays.copyOf(others, others.length + many);
        for (int i = 0; i < many; i++) {
            names[others.length + i] = "Promise " + (first + i);
        }
        return new Edges(names);
    }

    private static String document() {
        Path root = Path.of(System.getProperty("project.root", "."));
        try {
            String text = Files.readString(root.resolve("../shared/DOC.md"));
            return text.replace("```text", "").replace("```", "").replaceAll("\\s+", " ");
        } catch (IOException e) {
            throw new UncheckedIOException(e);
        }
    }

    private static String part(String document, String name) {
        switch (name) {
            case "Use":
                return between(document, "An object is used", "## The public face");
            case "Heads":
                return between(document, "Ahead of the calls", "## Promise 1:");
            case "Constants":
                return between(document, "The constants:", "Ahead of the calls");
            case "Terms I":
                return between(document, "I. THE TEXT", "II. AGE");
            case "Terms II":
                return between(document, "II. AGE", "III. From NOW");
            case "Terms III, what is best":
                return between(document, "III. From NOW", "THE OTHER LAW:");
            case "Terms III, sums":
                return between(document, "THE OTHER LAW:", "ACTS:");
            case "Terms III, acts":
                return between(document, "ACTS:", "IV. TROUBLE");
            case "Terms IV":
                return between(document, "IV. TROUBLE", "The constants:");
            default:
                String body = between(document, "## " + name + ":", "##");
                int behindSignature = body.indexOf("`:");
                return body.substring(behindSignature + 2);
        }
    }

    private static String between(String document, String from, String to) {
        int start = document.indexOf(from);
        int end = document.indexOf(to, start + from.length());
        if (start < 0 || end < 0) {
            throw new IllegalStateException("the document has no " + from);
        }
        return document.substring(start, end);
    }

    void promise(int number, String words) {
        says("Promise " + number, words);
    }

    void terms(String number, String words) {
        says("Terms " + number, words);
    }

    /** What is asked from here on is due by these words. */
    void says(String name, String words) {
        sentence = name + " '" + words + "': ";
        String text = parts.get(name);
        int at = text == null ? -1 : text.indexOf(words);
        is("the document says so", at >= 0);
        for (; at >= 0; at = text.indexOf(words, at + 1)) {
            for (int i = at; i < at + words.length(); i++) {
                quoted.get(name)[i] = true;
            }
        }
    }

    void same(String what, long got, long want) {
        asked++;
        if (got != want) {
            wrong++;
            if (wrong <= 50) {
                System.out.println(sentence + what + " answered " + tell(got) + ", due is " + tell(want));
            }
        }
    }

    private static String tell(long answer) {
        return answer == Calls.THROWS ? "NoSuchElementException" : Long.toString(answer);
    }

    void is(String what, boolean so) {
        same(what, so ? 1 : 0, 1);
    }

    /** A call that isn't refused. */
    void due(SaltedGate x, long want, String name, int... numbers) {
        same(Calls.tell(name, numbers), Calls.call(x, name, numbers), want);
        if (!Calls.NEVER_REFUSED.contains(name)) {
            same("trouble() behind " + Calls.tell(name, numbers), x.trouble(), 0);
        }
    }

    private void refusedOnce(SaltedGate x, int trouble, String name, int... numbers) {
        boolean gain = name.equals("gain") || name.equals("holdGain");
        boolean yes = name.equals("eat") || name.equals("hide") || name.equals("undo") || name.equals("back");
        same(Calls.tell(name, numbers), Calls.call(x, name, numbers), gain ? -10000 : yes ? 0 : -1);
        same("trouble() behind " + Calls.tell(name, numbers), x.trouble(), trouble);
        same("where() behind " + Calls.tell(name, numbers), x.where(), -1);
    }

    /** A call that is refused by a number but 4, and leaves all as it was. */
    void refused(Supplier<SaltedGate> scene, int trouble, String name, int... numbers) {
        SaltedGate x = scene.get();
        refusedOnce(x, trouble, name, numbers);
        is(Calls.tell(name, numbers) + " leaves all as it was", Snapshot.of(x).equals(Snapshot.of(scene.get())));
    }

    /** One number of a call on both sides of its bounds; the others are right, and no answer is told. */
    void bounds(Supplier<SaltedGate> scene, int trouble, String name, int[] numbers, int which, int least, int most) {
        for (int right : new int[] {least, most}) {
            SaltedGate x = scene.get();
            Calls.call(x, name, with(numbers, which, right));
            same("trouble() behind " + Calls.tell(name, with(numbers, which, right)), x.trouble(), 0);
        }
        refused(scene, trouble, name, with(numbers, which, least - 1));
        refused(scene, trouble, name, with(numbers, which, most + 1));
        for (int far : FAR) {
            refusedOnce(scene.get(), trouble, name, with(numbers, which, far));
        }
    }

    private static int[] with(int[] numbers, int which, int number) {
        int[] others = numbers.clone();
        others[which] = number;
        return others;
    }

    void end() {
        sentence = "";
        for (Map.Entry<String, String> part : parts.entrySet()) {
            StringBuilder left = new StringBuilder();
            for (int i = 0; i < part.getValue().length(); i++) {
                left.append(quoted.get(part.getKey())[i] ? '_' : part.getValue().charAt(i));
            }
            String words = left.toString().replaceAll("_+", " _ ").replaceAll("\\s+", " ");
            boolean all = !words.matches(".*[A-Za-z0-9].*");
            is(part.getKey() + (all ? "" : " has words that no test quotes: " + words), all);
        }
        System.out.println(asked + " answers, " + wrong + " not as due");
        if (wrong != 0) {
            System.exit(1);
        }
    }
}
