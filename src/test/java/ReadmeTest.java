import java.io.File;
import java.lang.reflect.InvocationTargetException;
import java.lang.reflect.Method;
import java.lang.reflect.Modifier;
import java.nio.file.Files;
import java.util.*;
import java.util.regex.Matcher;
import java.util.regex.Pattern;

/** What README.md shows and lists, tried on the class: its examples line by line, its table of calls row by row. */
public final class ReadmeTest {
    private static final Pattern MAKE = Pattern.compile("SluiceCards (\\w) = new SluiceCards\\(\\);");
    private static final Pattern CALL = Pattern.compile("(\\w)\\.(\\w+)\\(([^)]*)\\); +// (-?\\d+)(.*)");
    private static final Pattern ROW = Pattern.compile("\\| `(\\w+) (\\w+)\\(([^)]*)\\)` \\|.*\\|([A-Z ]*)\\|");
    private static final Pattern TEXT = Pattern.compile("\"([^\"]*)\"");
    private static final int[] NUMBERS = {-2, -1, 0, 1, 2, 3, 4, 5, 7, 8, 9, 121};
    private static final Check check = new Check();
    private static final Map<String, SluiceCards> made = new TreeMap<>();
    private static final Map<String, Method> face = new TreeMap<>();

    public static void main(String[] args) throws Exception {
        for (Method m : SluiceCards.class.getDeclaredMethods()) if (Modifier.isPublic(m.getModifiers())) face.put(m.getName(), m);
        Set<String> listed = new TreeSet<>();
        boolean code = false;
        int shown = 0;
        for (String line : Files.readAllLines(new File(args[0], "README.md").toPath())) {
            check.about("README.md: " + line);
            if (line.startsWith("```")) {
                code = line.equals("```java");
            } else if (code) {
                tryLine(line);
                shown++;
            } else {
                Matcher row = ROW.matcher(line);
                if (!row.matches()) continue;
                listed.add(row.group(2));
                tryRow(row);
            }
        }
        check.about("README.md");
        check.due("all calls are listed", listed.equals(face.keySet()) ? 1 : 0, 1);
        check.due("there are examples", shown > 20 ? 1 : 0, 1);
        check.end("ReadmeTest");
    }

    /** One line of an example: the answer is due, and bytes that are fed are what the line says in quotes. */
    private static void tryLine(String line) throws Exception {
        Matcher make = MAKE.matcher(line), call = CALL.matcher(line);
        if (make.matches()) {
            made.put(make.group(1), new SluiceCards());
            return;
        }
        if (!call.matches() || !made.containsKey(call.group(1)) || !face.containsKey(call.group(2))) {
            check.due("a line that can be tried", 0, 1);
            return;
        }
        Method method = face.get(call.group(2));
        String[] parts = call.group(3).isEmpty() ? new String[0] : call.group(3).split(", ");
        Object[] given = new Object[parts.length];
        for (int k = 0; k < parts.length; k++) {
            long n = Long.decode(parts[k].replace("L", ""));
            given[k] = asked(method, k, n);
        }
        check.due("the answer", ((Number) method.invoke(made.get(call.group(1)), given)).longValue(), Long.parseLong(call.group(4)));
        Matcher text = TEXT.matcher(call.group(5));
        if (!text.find()) return;
        String fed = text.group(1);
        check.due("the bytes", (Long) given[0], Check.word(fed, 0, fed.length()));
        check.due("how many bytes", (Integer) given[1], fed.length());
    }

    private static Object asked(Method method, int k, long n) {
        if (method.getParameterTypes()[k] == long.class) return n;
        return (int) n;
    }

    /** One row of the table: how the call is written, and which refusals it answers in any state with any numbers. */
    private static void tryRow(Matcher row) throws Exception {
        Method method = face.get(row.group(2));
        if (method == null) {
            check.due("such a call", 0, 1);
            return;
        }
        check.due("what comes back", method.getReturnType().getName().equals(row.group(1)) ? 1 : 0, 1);
        String[] parts = row.group(3).isEmpty() ? new String[0] : row.group(3).split(", ");
        check.due("how many numbers", method.getParameterCount(), parts.length);
        for (int k = 0; k < parts.length && k < method.getParameterCount(); k++) {
            check.due("type of " + parts[k], parts[k].startsWith(method.getParameterTypes()[k].getName() + " ") ? 1 : 0, 1);
        }
        String met = String.join(" ", refusals(method));
        check.due("refusals: " + met, met.equals(row.group(4).trim()) ? 1 : 0, 1);
    }

    /** The refusals in the document's order. What an act gives may be any number, so none of them is a refusal. */
    private static List<String> refusals(Method method) throws Exception {
        Set<Long> met = new TreeSet<>();
        if (!method.getName().equals("act")) {
            for (int state = 0; state < 5; state++) tryAll(method, state, new int[method.getParameterCount()], 0, met);
        }
        List<String> names = new ArrayList<>();
        if (met.contains((long) SluiceCards.NONE)) names.add("NONE");
        if (met.contains((long) SluiceCards.BAD)) names.add("BAD");
        if (met.contains((long) SluiceCards.STATE)) names.add("STATE");
        if (met.contains((long) SluiceCards.FULL)) names.add("FULL");
        if (met.contains(SluiceCards.NO)) names.add("NO");
        return names;
    }

    private static void tryAll(Method method, int state, int[] numbers, int from, Set<Long> met) throws Exception {
        if (from < numbers.length) {
            for (int n : NUMBERS) {
                numbers[from] = n;
                tryAll(method, state, numbers, from + 1, met);
            }
            return;
        }
        Object[] given = new Object[numbers.length];
        for (int k = 0; k < given.length; k++) given[k] = asked(method, k, numbers[k]);
        try {
            met.add(((Number) method.invoke(inState(state), given)).longValue());
        } catch (InvocationTargetException thrown) {
            check.due("no call throws: " + thrown.getCause(), 0, 1);
        }
    }

    /** 0 new, 1 with a river and a card, 2 full of all, 3 at its last hour, 4 with a card alone. */
    private static SluiceCards inState(int state) {
        SluiceCards x = new SluiceCards();
        if (state == 0) return x;
        if (state != 4) Check.river(x, state == 1 ? "reach 4 1 2" : "reach 5 2 4;reach 6 2 3;reach 7 3 3");
        for (int k = 0; k < (state == 2 ? 8 : 1); k++) Check.card(x, 1, 0, "2 if l>3");
        for (int k = 0; state == 2 && k < 10; k++) x.rain(k & 7);
        for (int k = 0; state == 3 && k < 99; k++) x.hour(0);
        x.hang(0, 0);
        x.act(0, 0, 7);
        if (state == 2) Check.feed(x, Check.times("reach 4 1 2;", 10));
        return x;
    }
}
