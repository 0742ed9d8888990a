import java.lang.reflect.Method;
import java.lang.reflect.Modifier;
import java.nio.charset.StandardCharsets;
import java.nio.file.Files;
import java.nio.file.Path;
import java.util.ArrayList;
import java.util.HashMap;
import java.util.List;
import java.util.Map;
import java.util.Set;
import java.util.regex.Matcher;
import java.util.regex.Pattern;

/**
 * Tests told piece by piece of the document: says() quotes the next piece, run() tells calls on a new object
 * with the answers due. No piece may be left out, and none may stand without an answer.
 *
 * <p>A call that answers a finding and a call that only asks are made on one of two objects of the same run:
 * all that can be asked of both must be the same then, but for status(). A text with a fault must be as wipe().
 */
final class Edges {
    private static final Path DOCUMENT = Path.of("../shared/DOC.md");
    private static final int MOST_CALLS = 512;
    private static final List<String> FINDINGS =
            List.of("BEYOND", "FULL", "KIND", "NONE", "STATE", "MISSING", "SIZE");
    private static final Set<String> ASKS = Set.of("vatOf", "of", "layer", "as", "takes", "now", "warm", "when",
            "takesIn", "burns", "fewest", "ith", "ways", "most", "best", "kind", "fires", "enough", "read", "count",
            "status");
    private static final Pattern STEP = Pattern.compile("(?:(\\d+) x )?(\\w+)\\(([^)]*)\\)(?: = (\\S+))?");
    private static final Map<String, Method> FACE = new HashMap<>();

    static {
        for (Method m : FortyDips.class.getDeclaredMethods()) {
            if (Modifier.isPublic(m.getModifiers())) {
                FACE.put(m.getName(), m);
            }
        }
    }

    private final String document;
    private String rest = "";
    private String place = "";
    private String piece = "";
    private int promise = 0;
    private int askedOfPiece = 1;
    private int pieces = 0;
    private int asked = 0;
    private int wrong = 0;

    Edges() throws Exception {
        document = Files.readString(DOCUMENT, StandardCharsets.UTF_8);
    }

    // ---- the document

    void terms() {
        open("Terms", "## Terms\n", "Ahead of the calls");
    }

    /** How many promises the document has. */
    int promises() {
        return document.split("\n## Promise ").length - 1;
    }

    /** The next promise: none between two may be left out. */
    void promise(int number) {
        if (promise != 0 && number != promise + 1) {
            fail("promise " + number + " is told behind promise " + promise);
        }
        promise = number;
        open("promise " + number, "## Promise " + number + ": ", "\n## ");
        rest = rest.substring(rest.indexOf("`: ") + 3);
    }

    private void open(String name, String from, String to) {
        close();
        place = name;
        int start = document.indexOf(from) + from.length();
        rest = document.substring(start, document.indexOf(to, start)).replace("```text", "").replace("```", "")
                .replaceAll("\\s+", " ").trim();
    }

    private void close() {
        endPiece();
        if (!rest.isEmpty()) {
            fail("no test for: " + rest);
        }
    }

    private void endPiece() {
        if (askedOfPiece == 0) {
            fail("nothing is asked");
        }
    }

    /** Quotes the next piece of the document: the runs that follow are its tests. */
    void says(String quoted) {
        endPiece();
        piece = quoted;
        pieces++;
        askedOfPiece = 0;
        if (rest.startsWith(quoted)) {
            rest = rest.substring(quoted.length()).trim();
        } else {
            fail("the document says: " + rest);
        }
    }

    private void fail(String what) {
        wrong++;
        System.out.println(place + ": " + piece + "\n    " + what);
    }

    /** The last promise told must be this one, 0 for none. */
    void end(String test, int last) {
        close();
        if (promise != last) {
            fail("promise " + last + " is not the last one told");
        }
        System.out.println(test + ": " + pieces + " pieces, " + asked + " answers, " + wrong + " faults");
        if (wrong != 0) {
            System.exit(1);
        }
    }

    // ---- runs of calls

    private record Call(String name, long[] given, String told, String due) {
        long on(FortyDips x) throws Exception {
            Method m = FACE.get(name);
            Object[] boxed = new Object[given.length];
            for (int i = 0; i < given.length; i++) {
                if (m.getParameterTypes()[i] == long.class) {
                    boxed[i] = given[i];
                } else {
                    boxed[i] = Math.toIntExact(given[i]);
                }
            }
            return ((Number) m.invoke(x, boxed)).longValue();
        }

        long want() {
            int f = FINDINGS.indexOf(due);
            return f >= 0 ? Check.BEYOND - f : Long.parseLong(due);
        }

        int finding() {
            if (due == null || (name.equals("write") && !FINDINGS.contains(due))) {
                return -1;
            }
            long f = Check.BEYOND - want();
            return f >= 0 && f < FINDINGS.size() ? (int) f : -1;
        }

        boolean isFault() {
            return name.equals("text") && want() < 0;
        }
    }

    /**
     * Calls on a new object: "dip(0, 3) = 6" (6 is due), "dip(0, 3)" (whatever it answers), "40 x dip(0, 3)",
     * "tape: wood 7" (bytes for the tape). MIN and MAX are the least and the greatest int.
     */
    void run(String... steps) throws Exception {
        runOn(new String[0], steps);
    }

    /** The same behind other steps. */
    void runOn(String[] before, String... steps) throws Exception {
        List<Call> calls = new ArrayList<>();
        for (String step : before) {
            calls.addAll(callsOf(step));
        }
        for (String step : steps) {
            calls.addAll(callsOf(step));
        }
        FortyDips x = new FortyDips();
        for (int i = 0; i < calls.size(); i++) {
            Call call = calls.get(i);
            long got = call.on(x);
            if (call.due() == null) {
                continue;
            }
            asked++;
            askedOfPiece++;
            if (got != call.want()) {
                fail(call.told() + " answered " + got + " in: " + String.join("; ", steps));
            } else if (call.finding() >= 0 || ASKS.contains(call.name()) || call.isFault()) {
                changesNothing(calls.subList(0, i), call);
            }
        }
    }

    private List<Call> callsOf(String step) {
        List<Call> calls = new ArrayList<>();
        if (step.startsWith("tape: ")) {
            String text = step.substring(6);
            for (int i = 0; i < text.length(); i += 4) {
                int n = Math.min(4, text.length() - i);
                long bytes = 0;
                for (int k = 0; k < n; k++) {
                    bytes = bytes << 8 | text.charAt(i + k);
                }
                calls.add(new Call("feed", new long[] {(int) bytes, n}, step, null));
            }
            return calls;
        }
        Matcher m = STEP.matcher(step);
        if (!m.matches() || !FACE.containsKey(m.group(2))) {
            throw new IllegalArgumentException("no step: " + step);
        }
        String[] words = m.group(3).isEmpty() ? new String[0] : m.group(3).split(", ");
        long[] given = new long[words.length];
        for (int i = 0; i < words.length; i++) {
            given[i] = words[i].equals("MIN") ? Integer.MIN_VALUE
                    : words[i].equals("MAX") ? Integer.MAX_VALUE : Long.parseLong(words[i]);
        }
        int times = m.group(1) == null ? 1 : Integer.parseInt(m.group(1));
        for (int i = 0; i < times; i++) {
            calls.add(new Call(m.group(2), given, step, m.group(4)));
        }
        return calls;
    }

    private void changesNothing(List<Call> before, Call call) throws Exception {
        FortyDips with = new FortyDips();
        FortyDips without = new FortyDips();
        for (Call c : before) {
            c.on(with);
            c.on(without);
        }
        call.on(with);
        if (call.isFault()) {
            without.wipe();
        }
        List<Long> seen = new ArrayList<>();
        List<Long> due = new ArrayList<>();
        int finding = call.finding();
        for (int which = -1; which < 7; which++) {
            seen.add((long) with.status(which));
            due.add((long) without.status(which) + (finding >= 0 && (which == -1 || which == finding) ? 1 : 0));
        }
        seen.addAll(all(with));
        due.addAll(all(without));
        // The call itself, and what seen() asks beside the answers that it tells: thrice, of ten candles at most.
        int made = before.size() + 1 + seen.size() + 3 * (1 + 10);
        if (made > MOST_CALLS) {
            fail("the test makes more calls than an object is used for: " + made);
        }
        if (!seen.equals(due)) {
            fail(call.told() + " changed something: " + seen + " instead of " + due);
        }
    }

    /** All that can be asked, the sheets, the tape and the image with it: nothing is left as it was. */
    private static List<Long> all(FortyDips x) {
        List<Long> all = new ArrayList<>(Check.seen(x));
        for (int s = 0; s < 4; s++) {
            for (int t = s; t < 4; t++) {
                all.add((long) x.copy(s, 0, t, 0, 0));
            }
        }
        for (int s = 0; s < 4; s++) {
            long was = 0;
            for (int i = 0; was != Check.BEYOND && was != Check.MISSING; i++) {
                was = x.write(s, i, 0x0101010101010101L);
                all.add(was);
            }
            // What is left of it tells of how many bits the numbers are.
            all.add(x.write(s, 0, 0));
        }
        // The image ahead of the text: a fault that tore it here would hide one that tore it before.
        all.add((long) x.undo());
        all.addAll(Check.seen(x));
        all.add((long) x.tear());
        all.add((long) x.text());
        all.addAll(Check.seen(x));
        return all;
    }
}
