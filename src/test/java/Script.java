import java.util.ArrayList;
import java.util.Arrays;
import java.util.List;
import java.util.Set;
import java.util.TreeSet;
import java.util.regex.Matcher;
import java.util.regex.Pattern;

/**
 * A run of calls on a new object, told as a text: steps behind one another, parted by ; or the line's end.
 *
 *   name a b = v           a call and the answer that is due; without = v it may not be refused
 *   feed "ab"              these signs, and bytes 0 behind them
 *   pattern "2(ab)"        fed as a whole, then pattern() of its length
 *   each name a = v w ..   name(0, a), name(1, a) ..
 *   waiting = abc          the REQUESTS that wait as letters (- for none); queue = abc likewise
 *   repeat n name a b = v  the same call n times
 *
 * With each step this also holds, by runs of the same calls on other objects: a refused call and one that only
 * looks change nothing (of a refused pattern() only THE TAPE and the FAULT); a call that can be UNDONE is told
 * by count(7), and undo(1) brings back all that was. And the Model answers the same.
 */
final class Script {
    private static final Set<String> CAN_BE_UNDONE = new TreeSet<>(List.of("begin", "terms", "swap", "store", "weak",
        "ask", "pair", "pattern", "drop", "refresh", "tick"));
    private static final Set<String> CHANGES_ELSE = new TreeSet<>(List.of("feed", "undo", "image", "restore"));
    private static final Pattern WORD = Pattern.compile("\"[^\"]*\"|\\S+");
    private static final int MOST_TO_TELL = 20;

    private static int wrong = 0;
    private static int steps = 0;
    private static int held = 0;

    private final String title;
    private final Calls x = new Calls();
    private final Model model = new Model();
    private final List<Call> changes = new ArrayList<>();
    private final String[] ahead = new String[Probe.WAYS];

    private record Call(String name, int[] a) {
        int on(Calls x) {
            return x.call(name, a);
        }

        @Override
        public String toString() {
            return name + Arrays.toString(a);
        }
    }

    private Script(String title) {
        this.title = title;
    }

    static void run(String title, String text) {
        Script script = new Script(title);
        for (String line : text.split("[;\n]")) {
            String step = line.replaceAll("#.*", "").strip();
            if (!step.isEmpty()) {
                steps++;
                script.step(step);
            }
        }
    }

    /** For runs that are too long to be told as a text. */
    static void same(String title, int got, int due) {
        steps++;
        if (got != due) {
            new Script(title).tell("answered " + got + ", due is " + due);
        }
    }

    static void end(String name) {
        System.out.println(name + ": " + steps + " steps, " + held + " held against other objects, " + wrong + " wrong");
        if (wrong != 0) {
            System.exit(1);
        }
    }

    private void tell(String what) {
        wrong++;
        if (wrong <= MOST_TO_TELL) {
            System.out.println(title + ": " + what);
        }
    }

    // ---- the steps

    private void step(String step) {
        String[] sides = step.split("=", 2);
        List<String> words = new ArrayList<>();
        Matcher m = WORD.matcher(sides[0]);
        while (m.find()) {
            words.add(m.group());
        }
        String due = sides.length > 1 ? sides[1].strip() : null;
        String first = words.get(0);
        if (first.equals("waiting") || first.equals("queue")) {
            list(step, first.equals("queue") ? "queued" : "request", due);
        } else if (first.equals("each")) {
            each(step, words.subList(1, words.size()), due.split(" +"));
        } else if (first.equals("repeat")) {
            for (int i = 0; i < Integer.parseInt(words.get(1)); i++) {
                due(step, callOf(words.subList(2, words.size())), due);
            }
        } else {
            due(step, callOf(words), due);
        }
    }

    private void list(String step, String name, String due) {
        StringBuilder got = new StringBuilder();
        for (int i = 0; x.call(name, i) >= 0; i++) {
            got.append((char) ('a' + x.call(name, i)));
        }
        String all = got.length() == 0 ? "-" : got.toString();
        if (!all.equals(due)) {
            tell(step + ": it is " + all);
        }
    }

    private void each(String step, List<String> words, String[] due) {
        for (int i = 0; i < due.length; i++) {
            List<String> one = new ArrayList<>(words);
            one.add(1, Integer.toString(i));
            due(step + ", " + i, callOf(one), due[i]);
        }
    }

    private Call callOf(List<String> words) {
        String name = words.get(0);
        if (words.size() > 1 && words.get(1).startsWith("\"")) {
            String signs = words.get(1).replace("\"", "");
            if (name.equals("feed")) {
                return new Call("feed", Calls.bytesOf(signs));
            }
            for (int i = 0; i == 0 || i < signs.length(); i += 20) {
                String some = signs.substring(i, Math.min(signs.length(), i + 20));
                due("feed of " + signs, new Call("feed", Calls.bytesOf(some)), null);
            }
            return new Call(name, new int[] {signs.length()});
        }
        int[] a = new int[words.size() - 1];
        for (int i = 0; i < a.length; i++) {
            a[i] = number(words.get(i + 1));
        }
        return new Call(name, a);
    }

    private static int number(String word) {
        switch (word) {
            case "MIN": return Integer.MIN_VALUE;
            case "MAX": return Integer.MAX_VALUE;
            default: return word.startsWith("0x") ? Integer.parseUnsignedInt(word.substring(2), 16)
                : Integer.parseInt(word);
        }
    }

    private void due(String step, Call call, String due) {
        int before = x.call("count", 7);
        int got = call.on(x);
        if (due == null ? got < RowGuard.NONE : got != number(due)) {
            tell(step + ": " + call + " answered " + got);
        }
        int told = model.call(call.name, call.a);
        if (told != got) {
            tell(step + ": " + call + " answered " + got + ", the Model " + told);
        }
        boolean refused = got < RowGuard.NONE;
        if (!refused && CAN_BE_UNDONE.contains(call.name)) {
            canBeUndone(step, call, before);
        } else if (call.name.equals("pattern") && got != -3) {
            emptiesTheTape(step, call);
        } else if (refused || !CHANGES_ELSE.contains(call.name)) {
            changesNothing(step, call);
            return;
        }
        changes.add(call);
        Arrays.fill(ahead, null);
    }

    // ---- what holds with each step

    private Calls again(Call... more) {
        Calls other = new Calls();
        for (Call c : changes) {
            c.on(other);
        }
        for (Call c : more) {
            c.on(other);
        }
        return other;
    }

    /** What was seen ahead of the step, kept as long as nothing changes. */
    private String ahead(int way) {
        if (ahead[way] == null) {
            ahead[way] = Probe.of(way, again());
        }
        return ahead[way];
    }

    private void same(String what, String got, String due) {
        held++;
        if (!got.equals(due)) {
            tell(what);
        }
    }

    private boolean isTooLong() {
        return changes.size() > Calls.MOST / 8;
    }

    private void canBeUndone(String step, Call call, int before) {
        int behind = x.call("count", 7);
        if (behind != Math.min(10, before + 1)) {
            tell(step + ": calls that can be UNDONE were " + before + " and are " + behind);
        }
        if (isTooLong()) {
            return;
        }
        Call undo = new Call("undo", new int[] {1});
        same(step + ": UNDONE, not all is as it was", Probe.state(again(call, undo)), Probe.state(again()));
        same(step + ": UNDONE, it goes on otherwise", Probe.of(1, again(call, undo)), ahead(1));
    }

    private void emptiesTheTape(String step, Call call) {
        if (x.call("count", 9) != 0) {
            tell(step + ": THE TAPE isn't empty");
        }
        if (isTooLong()) {
            return;
        }
        same(step + ": refused, it changed something", Probe.state(again(call)), Probe.state(again()));
        for (int way = 1; way < Probe.WAYS; way++) {
            same(step + ": refused, it changed something " + way, Probe.of(way, again(call)), ahead(way));
        }
    }

    private void changesNothing(String step, Call call) {
        if (isTooLong()) {
            return;
        }
        for (int way = 0; way < Probe.WAYS; way++) {
            same(step + ": it changed something " + way, Probe.of(way, again(call)), ahead(way));
        }
    }
}
