import java.util.Arrays;
import java.util.Random;

/** Random runs of calls on RowGuard and on the Model side by side; each answer must be the same. */
public final class RandomRuns {
    private static final String SIGNS = "aabbccddeefghp((()))0123456789 q`";
    private static final String[] CHANGES = {"terms", "terms", "terms", "swap", "store", "weak", "feed", "pattern", "ask",
        "ask", "ask", "pair", "pair", "pair", "refresh", "tick", "tick", "tick", "tick", "tick", "tick", "tick",
        "tick", "tick", "pattern", "feed"};
    private static final String[] BACK = {"undo", "undo", "undo", "image", "restore", "begin", "drop", "drop"};
    private static final String[] LOOKS = {"fault", "row", "row", "row", "at", "data", "data", "slot", "slot", "spill",
        "queued", "request", "often", "missed", "most", "spent", "told", "told", "could", "least", "done", "count",
        "count", "attack", "storm"};
    private static final String[] DEAR = {"hammer", "breaks", "worst", "order", "fewest", "sure", "choice", "by",
        "coarse", "small"};

    private final Random random;
    private final Calls real = new Calls();
    private final Model model = new Model();
    private int fedLength;

    private RandomRuns(long seed) {
        random = new Random(seed);
    }

    public static void main(String[] args) {
        int runs = args.length > 0 ? Integer.parseInt(args[0]) : 150;
        long from = args.length > 1 ? Long.parseLong(args[1]) : 1;
        for (long seed = from; seed < from + runs; seed++) {
            String wrong = new RandomRuns(seed).run();
            if (wrong != null) {
                System.out.println("run of seed " + seed + ": " + wrong);
                System.exit(1);
            }
        }
        System.out.println("RandomRuns: " + runs + " runs of 512 calls agree");
    }

    private String run() {
        int dear = 0;
        StringBuilder told = new StringBuilder();
        for (int i = 0; i < 512; i++) {
            int kind = random.nextInt(100);
            String name = kind < 45 ? pick(CHANGES) : kind < 50 ? pick(BACK)
                : kind < 97 || dear > 12 ? pick(LOOKS) : pick(DEAR);
            if (i < 12) {
                name = i == 0 ? "begin" : "terms";
            }
            dear += Arrays.asList(DEAR).contains(name) ? 1 : 0;
            int[] a = argumentsOf(name);
            int due = model.call(name, a);
            int got = real.call(name, a);
            told.append(name).append(Arrays.toString(a)).append(" = ").append(due).append('\n');
            if (due != got) {
                return told + "call " + i + " answered " + got + ", due is " + due;
            }
        }
        return null;
    }

    /** A PATTERN by the grammar, of some twenty bytes at most more often than not. */
    private String somePattern(int depth) {
        StringBuilder made = new StringBuilder();
        int parts = 1 + random.nextInt(3);
        for (int i = 0; i < parts; i++) {
            if (random.nextInt(3) == 0) {
                made.append(random.nextInt(8) == 0 ? random.nextInt(120) : 1 + random.nextInt(5));
            }
            if (depth > 0 && random.nextInt(4) == 0) {
                made.append('(').append(somePattern(depth - 1)).append(')');
            } else {
                made.append((char) ('a' + random.nextInt(random.nextInt(30) == 0 ? 17 : 4)));
            }
        }
        return made.toString();
    }

    private String pick(String[] names) {
        return names[random.nextInt(names.length)];
    }

    /** Mostly in the range, sometimes just beside it, seldom far off. */
    private int in(int least, int greatest) {
        int kind = random.nextInt(60);
        if (kind == 0) {
            return least - 1;
        }
        if (kind == 1) {
            return greatest + 1;
        }
        if (kind == 2) {
            return random.nextBoolean() ? Integer.MAX_VALUE : Integer.MIN_VALUE;
        }
        return least + random.nextInt(greatest - least + 1);
    }

    private int aRow() {
        return in(0, model.s.rows.size() - 1);
    }

    private int[] fed() {
        StringBuilder made = new StringBuilder(somePattern(random.nextInt(12) == 0 ? 4 : 3));
        fedLength = model.tape.isEmpty() ? Math.min(20, made.length()) : fedLength;
        while (made.length() < 20) {
            made.append(SIGNS.charAt(random.nextInt(SIGNS.length())));
        }
        if (random.nextInt(6) == 0) {
            made.setCharAt(random.nextInt(20), SIGNS.charAt(random.nextInt(SIGNS.length())));
        }
        int[] a = Calls.bytesOf(made.toString());
        if (random.nextInt(20) == 0) {
            a[random.nextInt(5)] = random.nextInt();
        }
        return a;
    }

    private int[] termArguments() {
        int what = in(0, 16);
        if (what < 0 || what > 16) {
            return new int[] {what, random.nextInt(4)};
        }
        int least = Model.RANGE[what][0];
        int greatest = Model.RANGE[what][1];
        if (random.nextInt(8) > 0) {
            int[] near = {12, 2, 5, 4, 5, 60, 3, 20, 5, 8, 4, 5, 4, 100, 1, 1, 2};
            greatest = Math.min(greatest, near[what]);
        }
        return new int[] {what, in(least, greatest)};
    }

    private int[] argumentsOf(String name) {
        boolean wide = model.s.rows.size() > 6;
        switch (name) {
            case "begin": return new int[] {random.nextInt(3) > 0 ? in(4, 6) : in(4, 16)};
            case "terms": return termArguments();
            case "swap": return new int[] {aRow(), aRow()};
            case "store":
            case "weak": return new int[] {aRow(), in(0, 255)};
            case "feed": return fed();
            case "pattern":
            case "attack": return new int[] {random.nextInt(4) > 0 ? Math.min(fedLength, model.tape.size()) : in(0, model.tape.size())};
            case "fault": return new int[] {in(0, 1)};
            case "ask": return new int[] {aRow(), random.nextInt(3) > 0 ? in(1, 9) : in(1, 48)};
            case "pair": return new int[] {aRow(), aRow(), random.nextInt(3) > 0 ? in(1, 15) : in(1, 48)};
            case "refresh":
            case "at": return new int[] {aRow()};
            case "tick": return new int[] {random.nextInt(8) > 0 ? in(1, 4) : in(1, 200)};
            case "row": return new int[] {aRow(), in(0, 6)};
            case "data": return new int[] {aRow(), in(0, 4)};
            case "slot": return new int[] {in(0, model.s.terms[3] - 1), in(0, 1)};
            case "queued": return new int[] {in(0, model.s.queue.size())};
            case "request": return new int[] {in(0, model.s.requests.size())};
            case "often": return new int[] {random.nextInt(3) > 0 ? in(1, 9) : in(1, 999)};
            case "most":
            case "done": return new int[] {in(0, 2)};
            case "spent": return new int[] {in(0, 3)};
            case "told": return new int[] {in(0, 8)};
            case "count": return new int[] {in(0, 27)};
            case "hammer": return new int[] {aRow(), in(1, 99), in(0, 1)};
            case "breaks": return new int[] {aRow(), in(0, 1)};
            case "worst": return new int[] {wide || random.nextInt(9) == 0 ? in(1, 5) : in(1, 4)};
            case "order": return new int[] {wide || random.nextInt(9) == 0 ? in(1, 5) : in(1, 4), in(0, 5)};
            case "sure": return new int[] {in(1, 4)};
            case "by": return new int[] {in(0, 5), in(1, 4)};
            case "choice": return new int[] {in(0, 7874), in(1, 48)};
            case "coarse":
            case "small": return new int[] {in(1, 30)};
            case "storm": return new int[] {in(0, 7874), in(1, 48), in(0, 2)};
            case "undo": return new int[] {random.nextInt(2) == 0 ? in(1, 3) : in(1, Math.max(1, model.past.size()))};
            case "image":
            case "restore": return new int[] {in(0, 1)};
            default: return new int[0];
        }
    }
}
