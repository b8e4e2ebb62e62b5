/**
 * What stands above the promises: the Terms, the part headed 2 (REQUESTS, TICKS, on paper, PATTERNS) and the part
 * headed 3 (UNDONE, IMAGES, codes). Each sentence that names a bound has a run at it, one below it and one beyond it.
 */
public final class BoundTest {
    private static final int[][] RANGE = PromiseTest.RANGE;
    private static final int SIZE = 3;
    private static final int GUARD = 2;

    public static void main(String[] args) {
        calls();
        rows();
        termRanges();
        limits();
        greatestLimit();
        reaches();
        opening();
        neighbours();
        neighboursByNumber();
        fullQueue();
        refreshing();
        scrubbing();
        tableOfOne();
        tableOfEight();
        steps();
        each();
        chance();
        draws();
        sketches();
        latest();
        blocked();
        emptyByTerms();
        emptyByWindow();
        room();
        first();
        every();
        owed();
        late();
        many();
        takes();
        queueTerm();
        latestBegan();
        waits();
        spent();
        paperTicks();
        peaks();
        paperRequests();
        patternNumbers();
        patternBrackets();
        patternLetters();
        patternEnds();
        patternFirstFault();
        patternInAll();
        undoneOf();
        undoneTen();
        images();
        Script.end("BoundTest");
    }

    private static void run(String title, String text) {
        Script.run(title, text);
    }

    // ---- Terms

    private static void calls() {
        String title = "at most 512 calls";
        Calls x = new Calls();
        for (int i = 1; i <= 511; i++) {
            Script.same(title, x.call("tick", 200), 0);
        }
        Script.same(title, x.call("count", 1), 511 * 200);
        x = new Calls();
        for (int i = 1; i <= 510; i++) {
            Script.same(title, x.call("drop"), 0);
        }
        Script.same(title, x.call("ask", 3, 2), 2);
        Script.same(title, x.call("undo", 10), 0);
    }

    private static void rows() {
        run("Terms: ROWS 0 to n - 1, 4 to 16; 8 at first", """
            count 0 = 8; row 7 0 = 7; row 8 0 = -2; row -1 0 = -2; at 7 = 7; at 8 = -2; at -1 = -2
            begin 3 = -3; begin 4 = 4; count 0 = 4; row 3 0 = 3; row 4 0 = -2; at 3 = 3; at 4 = -2
            begin 5 = 5; row 4 0 = 4; row 5 0 = -2; at 4 = 4; at 5 = -2
            begin 15 = 15; row 14 0 = 14; row 15 0 = -2; at 14 = 14; at 15 = -2
            begin 17 = -3; begin 16 = 16; row 15 0 = 15; row 16 0 = -2; at 15 = 15; at 16 = -2
            begin 0 = -3; begin -1 = -3; begin MIN = -3; begin MAX = -3; count 0 = 16
            """);
        run("Terms: at first ROW k at PLACE k, WEAK the bit of its number modulo 8", """
            begin 16
            each row 0 = 0 1 2 3 4 5 6 7 8 9 10 11 12 13 14 15
            each at = 0 1 2 3 4 5 6 7 8 9 10 11 12 13 14 15
            each data 2 = 1 2 4 8 16 32 64 128 1 2 4 8 16 32 64 128
            each data 0 = 0 0 0 0 0 0 0 0 0 0 0 0 0 0 0 0
            each data 1 = 0 0 0 0 0 0 0 0 0 0 0 0 0 0 0 0
            each row 1 = 0 0 0 0 0 0 0 0 0 0 0 0 0 0 0 0
            each row 4 = 0 0 0 0 0 0 0 0 0 0 0 0 0 0 0 0
            each data 4 = 0 0 0 0 0 0 0 0 0 0 0 0 0 0 0 0
            """);
        run("Terms: 8 bits each", """
            store 1 -1 = -3; store 1 256 = -3; store 1 255 = 0; store 1 254 = 255; store 1 0 = 254; store 1 1 = 0
            weak 1 -1 = -3; weak 1 256 = -3; weak 1 255 = 2; weak 1 254 = 255; weak 1 0 = 254; weak 1 1 = 0
            terms 0 2; weak 1 255; store 1 129; ask 0 1; tick 1
            data 1 0 = 126; data 1 3 = 8
            """);
    }

    private static void termRanges() {
        for (int k = 0; k < RANGE.length; k++) {
            int least = RANGE[k][0];
            int first = RANGE[k][1];
            int greatest = RANGE[k][2];
            StringBuilder text = new StringBuilder();
            text.append("count ").append(10 + k).append(" = ").append(first).append('\n');
            for (int bad : new int[] {least - 1, greatest + 1, Integer.MIN_VALUE, Integer.MAX_VALUE}) {
                text.append("terms ").append(k).append(' ').append(bad).append(" = -3\n");
            }
            int[] good = {least, least + 1, greatest - 1, greatest, least, first};
            int was = first;
            for (int v : good) {
                text.append("terms ").append(k).append(' ').append(v).append(" = ").append(was).append('\n');
                text.append("count ").append(10 + k).append(" = ").append(v).append('\n');
                was = v;
            }
            run("TERM " + k + ": least to greatest, at first", text.toString());
        }
        run("TERMS 0 to 16", "terms -1 1 = -2; terms 17 1 = -2; terms 16 1 = 0; terms 0 1 = 24; terms -1 0 = -2; terms 17 -1 = -2");
    }

    private static void limits() {
        run("TO DISTURB: less than LIMIT, then LIMIT at least", """
            begin 6; terms 0 4; terms 2 2; terms 13 0; terms 1 2
            ask 3 1; tick 1; each row 1 = 0 1 2 0 2 1
            ask 2 1; tick 1; each row 1 = 1 3 0 2 3 1
            count 8 = 0; told 3 = 0; most 2 = 1        # 3 is one below
            ask 3 1; tick 1; each row 1 = 1 4 2 0 5 2  # 4 is it, 5 is beyond
            count 8 = 18; told 3 = 2; each row 4 = 0 1 0 0 1 0; each data 0 = 0 2 0 0 16 0
            ask 3 1; tick 1; each row 1 = 1 5 4 0 7 3  # ROWS 1, 4 had LIMIT
            count 8 = 22; told 3 = 3; each data 0 = 0 2 4 0 16 0
            """);
        run("TO DISTURB: a ROW FLIPS again when it is REFRESHED, its bits are back then", """
            begin 4; terms 0 4; terms 2 2; terms 13 0; weak 1 40; store 1 15
            ask 0 2; tick 2; told 3 = 1; data 1 0 = 39
            ask 0 1; tick 1; told 3 = 1; data 1 0 = 39
            refresh 1 = 6; row 1 4 = 1
            ask 0 1; tick 1; told 3 = 1
            ask 0 1; tick 1; told 3 = 2; data 1 0 = 15; row 1 4 = 1; data 1 3 = 0
            """);
        run("TO DISTURB: by another LIMIT", """
            begin 4; terms 0 4; terms 2 2; terms 13 0
            ask 0 2; tick 2; told 3 = 1
            terms 0 5; ask 0 1; tick 1; row 1 1 = 6; told 3 = 2; data 1 0 = 0
            terms 0 6; ask 0 1; tick 1; row 1 1 = 8; told 3 = 2
            terms 0 9; refresh 1; ask 0 2; tick 2; terms 0 4; ask 0 1; tick 1; row 1 1 = 6; told 3 = 2
            """);
        run("LIMIT 1: one more is enough", """
            begin 6; terms 0 1; terms 1 2; ask 0 1; tick 1
            each row 1 = 0 2 1 0 0 0; told 3 = 2; count 8 = 6; most 2 = 0
            """);
    }

    private static void greatestLimit() {
        run("LIMIT 999", """
            begin 16; terms 0 999; terms 2 2; terms 13 0; terms 7 99; terms 12 8
            repeat 1 ask 7 48; tick 48; ask 7 48; tick 48; ask 7 48; tick 48; ask 7 48; tick 48; ask 7 48; tick 48
            ask 7 48; tick 48; ask 7 48; tick 48; ask 7 48; tick 48; ask 7 48; tick 48; ask 7 48; tick 48
            ask 7 19; tick 19; told 6 = 0; row 8 1 = 998; row 8 4 = 0; most 2 = 1; told 3 = 0
            terms 1 2; ask 6 1; tick 1; row 8 1 = 999; row 8 4 = 1; told 3 = 1; most 2 = 0
            undo 3; ask 7 1; tick 1; row 8 1 = 1000; row 8 4 = 1; told 3 = 2
            """);
    }

    private static void reaches() {
        run("REACH at the ends of the PLACES", """
            begin 6; terms 2 2; terms 13 0; terms 1 2
            ask 0 1; tick 1; each row 1 = 0 2 1 0 0 0; undo 2
            ask 1 1; tick 1; each row 1 = 2 0 2 1 0 0; undo 2
            ask 2 1; tick 1; each row 1 = 1 2 0 2 1 0; undo 2
            ask 3 1; tick 1; each row 1 = 0 1 2 0 2 1; undo 2
            ask 4 1; tick 1; each row 1 = 0 0 1 2 0 2; undo 2
            ask 5 1; tick 1; each row 1 = 0 0 0 1 2 0; undo 2
            terms 1 1
            ask 0 1; tick 1; each row 1 = 0 2 0 0 0 0; undo 2
            ask 1 1; tick 1; each row 1 = 2 0 2 0 0 0; undo 2
            ask 4 1; tick 1; each row 1 = 0 0 0 2 0 2; undo 2
            ask 5 1; tick 1; each row 1 = 0 0 0 0 2 0
            """);
        run("REACH at the ends of the fewest and the most PLACES", """
            begin 4; terms 2 2; terms 13 0; terms 1 2
            ask 0 1; tick 1; each row 1 = 0 2 1 0; undo 2
            ask 1 1; tick 1; each row 1 = 2 0 2 1; undo 2
            ask 2 1; tick 1; each row 1 = 1 2 0 2; undo 2
            ask 3 1; tick 1; each row 1 = 0 1 2 0
            begin 16
            ask 15 1; tick 1; each row 1 = 0 0 0 0 0 0 0 0 0 0 0 0 0 1 2 0
            ask 14 1; tick 1; each row 1 = 0 0 0 0 0 0 0 0 0 0 0 0 1 3 0 2
            """);
        run("REACH goes by PLACES", """
            begin 6; terms 2 2; terms 13 0; terms 1 2; swap 0 5
            ask 5 1; tick 1; each row 1 = 0 2 1 0 0 0; undo 2
            ask 0 1; tick 1; each row 1 = 0 0 0 1 2 0; undo 2
            ask 1 1; tick 1; each row 1 = 0 0 2 1 0 2; undo 2
            ask 4 1; tick 1; each row 1 = 2 0 1 2 0 0
            """);
    }

    private static void opening() {
        run("TO OPEN: it is DISTURBED 0, OPENED is one more", """
            begin 5; terms 2 2; terms 13 0
            ask 1 2; tick 2; each row 1 = 4 0 4 0 0; each row 2 = 0 2 0 0 0; each row 3 = 0 2 0 0 0
            ask 2 1; tick 1; each row 1 = 4 2 0 2 0; each row 2 = 0 2 1 0 0; each row 3 = 0 2 1 0 0
            """);
        run("TO OPEN: the GUARD sees it behind the DISTURBING; FLIPPED ones are NEIGHBOURS as well", """
            begin 5; terms 0 2; terms 4 1; ask 2 1; tick 1; told 3 = 2; queue = bd; count 8 = 10
            """);
    }

    private static void neighbours() {
        run("NEIGHBOURS at the ends, by distances, the lower one first", """
            begin 6; terms 2 1; terms 4 1; terms 11 8
            ask 0 1; tick 1; queue = b; undo 2
            ask 1 1; tick 1; queue = ac; undo 2
            ask 4 1; tick 1; queue = df; undo 2
            ask 5 1; tick 1; queue = e; undo 2
            terms 1 2
            ask 0 1; tick 1; queue = bc; undo 2
            ask 1 1; tick 1; queue = acd; undo 2
            ask 2 1; tick 1; queue = bdae; undo 2
            ask 3 1; tick 1; queue = cebf; undo 2
            ask 4 1; tick 1; queue = dfc; undo 2
            ask 5 1; tick 1; queue = ed
            """);
        run("NEIGHBOURS: those that are in the QUEUE don't come again", """
            begin 4; terms 2 1; terms 4 1; terms 11 8; terms 1 2
            pattern "bcad"
            tick 1; queue = acd
            tick 1; queue = acdb; count 3 = 4; each row 6 = 0 3 1 2
            tick 1; queue = acdb
            tick 1; queue = acdb; told 4 = 4
            tick 1; queue = cdb; row 0 6 = -1
            """);
    }

    private static void neighboursByNumber() {
        run("NEIGHBOURS by KNOWS 1 and 0", """
            begin 6; terms 2 1; terms 4 1; terms 11 8; terms 1 2; swap 0 3
            ask 3 1; tick 1; queue = bc; undo 2            # at PLACE 0
            ask 0 1; tick 1; queue = cebf; undo 2          # at PLACE 3
            ask 1 1; tick 1; queue = dca; undo 2           # PLACES 0, 2, 3
            terms 14 0
            ask 3 1; tick 1; queue = cebf; each row 1 = 0 2 1 0 0 0; undo 2
            ask 0 1; tick 1; queue = bc; each row 1 = 0 1 2 0 2 1; undo 2
            ask 1 1; tick 1; queue = acd; undo 2
            ask 5 1; tick 1; queue = ed; undo 2
            terms 1 1
            ask 0 1; tick 1; queue = b; undo 2
            ask 5 1; tick 1; queue = e; undo 2
            ask 3 1; tick 1; queue = ce
            """);
    }

    private static void fullQueue() {
        run("the QUEUE holds each ROW once, all of the fewest ROWS", """
            begin 4; terms 2 1; terms 4 1; terms 11 8; terms 6 9
            pattern "abcdabcd"
            tick 72; count 3 = 4; queue = bacd; told 4 = 8; count 2 = 0
            queued 3 = 3; queued 4 = -1; queued -1 = -3
            """);
        run("as many as can come into the QUEUE while REQUESTS wait", """
            begin 16; terms 2 1; terms 4 1; terms 11 8; terms 1 2; terms 7 99
            pattern "cgkk"; tick 2; queue = bdaefhi; tick 1; queue = bdaefhijlm; told 5 = 0
            tick 1; told 5 = 1; told 0 = 3; queue = daefhijlm
            tick 9; told 5 = 10; told 0 = 3; queue = -; tick 1; told 0 = 4; queue = jlim
            """);
    }

    private static void refreshing() {
        run("TO REFRESH from the QUEUE by HALF 1: DISTURB around it", """
            begin 6; terms 2 1; terms 4 1; terms 15 1; terms 1 2
            ask 0 1; tick 1; queue = bc; each row 1 = 0 2 1 0 0 0
            tick 1; each row 1 = 2 0 3 1 0 0; queue = c
            tick 1; each row 1 = 3 2 0 3 1 0; queue = -
            each row 3 = 1 0 0 0 0 0; each row 5 = 1 0 0 0 0 0; told 5 = 2; told 4 = 1
            """);
        run("TO REFRESH from the QUEUE by HALF 0: none", """
            begin 6; terms 2 1; terms 4 1; terms 1 2
            ask 0 1; tick 1; each row 1 = 0 2 1 0 0 0
            tick 1; each row 1 = 0 0 1 0 0 0
            tick 1; each row 1 = 0 0 0 0 0 0; told 5 = 2
            """);
        run("by HALF 1 a ROW may FLIP", """
            begin 5; terms 2 1; terms 4 1; terms 15 1; terms 0 3
            ask 1 1; tick 1; each row 1 = 2 0 2 0 0; told 3 = 0
            tick 1; each row 1 = 0 2 2 0 0; told 3 = 0
            tick 1; each row 1 = 0 4 0 2 0; told 3 = 1; count 8 = 2; data 1 0 = 2
            """);
        run("HALF is for the QUEUE alone", """
            begin 5; terms 2 2; terms 13 0; terms 15 1; terms 7 4; terms 9 5
            ask 1 1; tick 1; each row 1 = 2 0 2 0 0; refresh 2 = 2; each row 1 = 2 0 0 0 0
            tick 4; told 6 = 5; each row 1 = 0 0 0 0 0
            """);
    }

    private static void scrubbing() {
        String[] ways = {"by hand", "by a REFRESHING", "from the QUEUE"};
        String[] does = {"refresh 0 = 2", "tick 4; told 6 = 1; told 5 = 0", "tick 1; told 5 = 1; told 6 = 0"};
        int[] weak = {0, 16, 129, 255};
        int[] bits = {0, 1, 2, 8};
        for (int way = 0; way < 3; way++) {
            for (int scrub = 0; scrub <= 2; scrub++) {
                for (int i = 0; i < weak.length; i++) {
                    boolean scrubs = way == 1 && scrub >= 1 || way == 2 && scrub == 2;
                    boolean isFixed = scrubs && bits[i] == 1;
                    boolean isLost = scrubs && bits[i] > 1;
                    String text = "begin 4; terms 0 2; terms 2 2; terms 7 4; terms 16 " + scrub + "; terms 13 "
                        + (way == 2 ? 100 : 0) + "; store 0 90; weak 0 " + weak[i] + "\n"
                        + "ask 1 1; tick 1; data 0 0 = " + (90 ^ weak[i]) + "; data 0 3 = " + bits[i]
                        + "; row 0 4 = 1\n" + does[way] + "; row 0 1 = 0; data 0 1 = 90\n"
                        + "data 0 0 = " + (isFixed ? 90 : 90 ^ weak[i]) + "; told 7 = " + (isFixed ? 1 : 0)
                        + "; told 8 = " + (isLost ? 1 : 0) + "; data 0 4 = " + (isLost ? 1 : 0) + "; count 27 = "
                        + (isLost ? 1 : 0) + "; row 0 4 = 1";
                    run("SCRUB " + scrub + ", " + bits[i] + " bits, " + ways[way], text);
                }
            }
        }
        run("SCRUB ahead of what HALF brings", """
            begin 5; terms 0 2; terms 4 1; terms 2 1; terms 15 1; terms 16 2
            ask 1 1; tick 1; each data 0 = 1 0 4 0 0
            tick 1; each data 0 = 0 2 4 0 0; told 7 = 1      # a is FIXED, then b FLIPS
            tick 1; each data 0 = 0 2 0 8 0; told 7 = 2; row 1 1 = 4; told 3 = 4
            """);
        run("one that is LOST isn't LOST again", """
            begin 4; terms 0 2; terms 2 2; terms 13 0; terms 7 4; terms 9 4; terms 16 1; weak 0 7
            ask 1 1; tick 5; told 8 = 1; count 27 = 1; data 0 0 = 7; told 7 = 1
            tick 4; told 8 = 1; told 6 = 8; count 27 = 1
            store 0 0 = 7; count 27 = 0; ask 1 1; tick 4; told 8 = 2; count 27 = 1
            """);
    }

    // ---- GUARDS

    private static void tableOfOne() {
        run("TABLE of one slot", """
            begin 5; terms 3 1; terms 4 2; terms 11 8; terms 0 999; slot 0 0 = -1; slot 0 1 = 0; spill = 0; slot 1 0 = -2
            pattern "abbcaa"
            tick 1; slot 0 0 = 0; slot 0 1 = 1; spill = 0; told 4 = 0
            tick 1; slot 0 0 = 0; slot 0 1 = 1; spill = 1; row 1 5 = 0; told 4 = 0   # none has COUNT 0
            tick 1; slot 0 0 = 1; slot 0 1 = 2; spill = 1; told 4 = 1; queue = ac    # SPILL and 1 is 2
            tick 1; slot 0 0 = 1; slot 0 1 = 2; spill = 2; told 4 = 1                # SPILL 2 doesn't FIRE
            tick 1; slot 0 0 = 0; slot 0 1 = 3; spill = 2; told 4 = 1
            tick 1; slot 0 1 = 4; told 4 = 2; queue = acb
            """);
    }

    private static void tableOfEight() {
        run("TABLE of eight slots, nine ROWS", """
            begin 9; terms 3 8; terms 4 99; terms 0 999; terms 7 99
            pattern "abcdefg"; tick 7; slot 7 0 = -1; slot 7 1 = 0
            ask 7 1; tick 1; each slot 0 = 0 1 2 3 4 5 6 7; each slot 1 = 1 1 1 1 1 1 1 1; slot 8 0 = -2; spill = 0
            ask 8 1; tick 1; spill = 1; row 8 5 = 0; each slot 0 = 0 1 2 3 4 5 6 7; each slot 1 = 1 1 1 1 1 1 1 1
            ask 8 1; tick 1; spill = 1; each slot 0 = 8 1 2 3 4 5 6 7; each slot 1 = 2 1 1 1 1 1 1 1
            row 0 5 = 0; row 8 5 = 2
            ask 0 1; tick 1; each slot 0 = 8 0 2 3 4 5 6 7; each slot 1 = 2 2 1 1 1 1 1 1
            ask 7 1; tick 1; each slot 1 = 2 2 1 1 1 1 1 2; ask 1 1; tick 1; slot 2 0 = 1; slot 2 1 = 2; spill = 1
            """);
        run("TABLE: the slot of the ROW counts ahead of one whose COUNT is SPILL", """
            begin 4; terms 4 99; pattern "abac"; tick 4; each slot 0 = 0 1; each slot 1 = 2 1; spill = 1
            ask 1 1; tick 1; each slot 0 = 0 1; each slot 1 = 2 2; spill = 1
            ask 3 1; tick 1; each slot 0 = 0 1; spill = 2
            ask 3 1; tick 1; each slot 0 = 3 1; each slot 1 = 3 2
            """);
    }

    private static void steps() {
        for (int guard : new int[] {0, 1, 3, 4}) {
            run("a COUNT that is a multiple of STEP FIRES, GUARD " + guard, "terms 2 " + guard + "\n" + """
                begin 4; terms 4 3; terms 11 8; terms 0 999; ask 2 9
                row 2 5 = 0; told 4 = 0
                tick 1; row 2 5 = 1; told 4 = 0
                tick 1; row 2 5 = 2; told 4 = 0
                tick 1; row 2 5 = 3; told 4 = 1
                tick 1; row 2 5 = 4; told 4 = 1
                tick 1; row 2 5 = 5; told 4 = 1
                tick 1; row 2 5 = 6; told 4 = 2
                terms 4 4; tick 1; row 2 5 = 7; told 4 = 2; tick 1; row 2 5 = 8; told 4 = 3
                terms 4 1; tick 1; row 2 5 = 9; told 4 = 4
                """);
            run("STEP 99, GUARD " + guard, "terms 2 " + guard + "\n" + """
                begin 4; terms 4 99; terms 5 999; terms 7 99; terms 12 8; terms 11 8
                ask 2 48; tick 48; ask 2 48; tick 48; ask 2 4; tick 2; row 2 5 = 98; told 4 = 0
                tick 1; row 2 5 = 99; told 4 = 1; tick 1; row 2 5 = 100; told 4 = 1
                """);
        }
        run("STEP 99, GUARD 5", """
            begin 4; terms 2 5; terms 4 99; terms 5 999; terms 7 99; terms 12 8
            ask 2 48; tick 48; ask 2 48; tick 48; ask 2 4; tick 2; row 2 5 = 98; count 2 = 2
            tick 1; row 2 5 = 99; count 2 = 1; tick 9; count 2 = 1; row 2 5 = 99; told 4 = 0
            """);
    }

    private static void each() {
        run("EACH: a COUNT of each ROW", """
            begin 16; terms 2 1; terms 4 3; terms 11 8; pattern "papaaoo"; tick 7
            row 0 5 = 3; row 15 5 = 2; row 14 5 = 2; row 1 5 = 0; told 4 = 1; slot 0 0 = -2; slot 0 1 = -2; spill = -1
            """);
    }

    private static void chance() {
        String[][] cases = {
            {"0", "2222", "0"}, {"1", "2222", "1"}, {"0", "47", "0"}, {"1", "47", "1"}, {"1", "78", "0"}, {"2", "78", "1"},
            {"98", "60", "0"}, {"99", "60", "1"}, {"99", "91", "0"}, {"100", "91", "1"}, {"99", "7291", "0"},
            {"100", "7291", "1"}, {"74", "7366", "0"}, {"75", "7366", "1"}, {"0", "2147", "0"}, {"1", "2147", "1"}};
        for (String[] c : cases) {
            // behind the DRAW of a ROW x is 0, 5700, 3001, 3298, 599, 7799, 7874, 7800
            run("CHANCE " + c[0] + " behind a DRAW from " + c[1],
                "begin 4; terms 2 2; terms 13 " + c[0] + "; storm " + c[1] + " 1 2 = " + c[2]);
        }
        run("CHANCE: a DRAW of 17 below it", """
            begin 4; terms 2 2; terms 13 17; ask 1 1; tick 1; told 4 = 0; undo 2
            terms 13 18; ask 1 1; tick 1; told 4 = 1; queue = ac; undo 2
            terms 13 16; ask 1 1; tick 1; told 4 = 0; queue = -; row 1 5 = 0
            """);
    }

    private static void draws() {
        for (int chance = 5; chance < 100; chance += 15) {
            StringBuilder text = new StringBuilder("begin 4; terms 2 2; terms 11 8; terms 7 99; terms 5 4; terms 13 ");
            text.append(chance).append('\n');
            long x = 17;
            int fires = 0;
            for (int i = 0; i < 48; i++) {
                fires += x % 100 < chance ? 1 : 0;
                x = (421 * x + 1663) % 7875;
                text.append(i % 8 == 0 ? "ask 1 8\n" : "").append("tick 1; told 4 = ").append(fires).append('\n');
            }
            run("a DRAW: how x goes round, also beyond a WINDOW, CHANCE " + chance, text.toString());
        }
        run("x goes on when the GUARD is EMPTY", """
            begin 4; terms 2 2; terms 13 18; ask 1 2; tick 1; told 4 = 1
            terms 2 2; terms 3 2; drop; tick 5; ask 1 1; tick 1; told 4 = 1    # 45 isn't below 18
            """);
    }

    private static void sketches() {
        run("SKETCH of one COUNT in each row", """
            begin 5; terms 2 3; terms 3 1; terms 4 3; terms 11 8; terms 0 999
            pattern "abcde"; tick 2; slot 0 0 = 2; slot 0 1 = 2; slot 1 0 = -2; told 4 = 0
            each row 5 = 2 2 2 2 2
            tick 1; told 4 = 1; queue = bd; slot 0 0 = 3; spill = -1
            """);
        run("SKETCH of eight, sixteen ROWS", """
            begin 16; terms 2 3; terms 3 8; terms 4 99; slot 8 0 = -2; slot 7 1 = 0
            pattern "bjp"; tick 3; each slot 0 = 0 2 0 0 0 0 0 1; each slot 1 = 0 0 0 0 2 0 1 0
            row 1 5 = 2; row 9 5 = 2; row 15 5 = 1; row 7 5 = 1; row 0 5 = 0; row 5 5 = 0
            """);
        run("SKETCH of five: 3 times the ROW and 1", """
            begin 8; terms 2 3; terms 3 5; terms 4 99
            ask 0 1; tick 1; each slot 0 = 1 0 0 0 0; each slot 1 = 0 1 0 0 0; undo 2
            ask 1 1; tick 1; each slot 0 = 0 1 0 0 0; each slot 1 = 0 0 0 0 1; undo 2
            ask 2 1; tick 1; each slot 0 = 0 0 1 0 0; each slot 1 = 0 0 1 0 0; undo 2
            ask 3 1; tick 1; each slot 0 = 0 0 0 1 0; each slot 1 = 1 0 0 0 0; undo 2
            ask 4 1; tick 1; each slot 0 = 0 0 0 0 1; each slot 1 = 0 0 0 1 0; undo 2
            ask 7 1; tick 1; each slot 0 = 0 0 1 0 0; each slot 1 = 0 0 1 0 0; row 2 5 = 1; row 7 5 = 1
            """);
        run("SKETCH of three: the lesser COUNT", """
            begin 8; terms 2 3; terms 3 3; terms 4 2; terms 11 8
            pattern "abca"; tick 3; each slot 0 = 1 1 1; each slot 1 = 0 3 0; told 4 = 0; each row 5 = 1 1 1 1 1 1 1 1
            tick 1; each slot 0 = 2 1 1; each slot 1 = 0 4 0; told 4 = 1; each row 5 = 2 1 1 2 1 1 2 1
            """);
    }

    private static void latest() {
        run("LATEST of one slot", """
            begin 4; terms 2 4; terms 3 1; terms 4 2; terms 11 8; pattern "aabab"
            tick 2; slot 0 0 = 0; slot 0 1 = 2; told 4 = 1
            tick 1; slot 0 0 = 1; slot 0 1 = 1; row 0 5 = 0; told 4 = 1
            tick 1; slot 0 0 = 0; slot 0 1 = 1; told 4 = 1; slot 1 0 = -2; spill = -1
            terms 4 1; tick 1; slot 0 1 = 1; told 4 = 2
            """);
        run("LATEST of eight slots, nine ROWS", """
            begin 9; terms 2 4; terms 3 8; terms 4 99; terms 7 99
            pattern "abcdefg"; tick 7; slot 7 0 = -1; slot 7 1 = 0
            ask 7 1; tick 1; each slot 0 = 0 1 2 3 4 5 6 7; each slot 1 = 1 1 1 1 1 1 1 1
            pattern "ai"; tick 2; each slot 0 = 0 8 2 3 4 5 6 7; each slot 1 = 2 1 1 1 1 1 1 1; row 1 5 = 0
            pattern "ccb"; tick 3; each slot 0 = 0 8 2 1 4 5 6 7; each slot 1 = 2 1 3 1 1 1 1 1
            """);
        run("LATEST: the lowest slot without a ROW first, then the one seen longest ago", """
            begin 6; terms 2 4; terms 3 3; terms 4 99
            pattern "ca"; tick 2; each slot 0 = 2 0 -1; each slot 1 = 1 1 0
            ask 2 1; tick 1; each slot 0 = 2 0 -1; each slot 1 = 2 1 0
            ask 5 1; tick 1; each slot 0 = 2 0 5
            ask 4 1; tick 1; each slot 0 = 2 4 5; ask 3 1; tick 1; each slot 0 = 3 4 5; each slot 1 = 1 1 1
            """);
    }

    private static void blocked() {
        run("BLOCK: a COUNT one below STEP, STEP, and beyond", """
            begin 5; terms 2 5; terms 4 3; terms 5 10; terms 7 99; terms 0 999
            ask 1 4; tick 2; row 1 5 = 2; count 2 = 2
            tick 1; row 1 5 = 3; count 2 = 1
            tick 1; row 1 5 = 3; count 2 = 1; spent 3 = 1
            terms 4 4; tick 1; count 2 = 0; row 1 5 = 4; told 0 = 4
            ask 1 1; tick 1; count 2 = 1
            terms 4 2; tick 1; count 2 = 1
            ask 2 1; tick 1; waiting = b; row 2 5 = 1; count 1 = 8
            tick 2; waiting = b; tick 1; waiting = -; row 1 5 = 1; told 4 = 0; told 2 = 5
            """);
        run("BLOCK by STEP 1: one of each ROW in a WINDOW", """
            begin 4; terms 2 5; terms 4 1; terms 5 8; terms 7 99; pattern "abacdbd"
            tick 2; waiting = acdbd; tick 1; waiting = adbd; tick 1; waiting = abd; tick 4; waiting = abd
            each row 5 = 1 1 1 1; tick 3; waiting = -; each row 5 = 1 1 0 1
            """);
        run("none is BLOCKED by other GUARDS", """
            begin 4; terms 4 1; terms 11 8; terms 2 1; ask 0 3; tick 3; count 2 = 0; row 0 5 = 3
            terms 2 0; ask 0 3; tick 3; count 2 = 0; terms 2 3; ask 0 3; tick 3; count 2 = 0
            terms 2 4; ask 0 3; tick 3; count 2 = 0; terms 2 2; ask 0 3; tick 3; count 2 = 0
            """);
    }

    private static void emptyByTerms() {
        for (int guard = 0; guard <= 5; guard++) {
            for (int k = 0; k < RANGE.length; k++) {
                boolean empties = k == GUARD || k == SIZE;
                int count = guard == 2 || empties ? 0 : 2;
                int v = k == GUARD ? guard : RANGE[k][1];
                String slot = guard == 1 || guard == 2 || guard == 5 ? "-2" : Integer.toString(count);
                String where = guard == 3 ? "0 0" : "0 1";
                run("EMPTY as a TERM of 2, 3 is told, be it the same: TERM " + k + ", GUARD " + guard,
                    "begin 4; terms 2 " + guard + "; ask 0 2; tick 2; terms " + k + " " + v + " = " + v
                    + "; row 0 5 = " + count + "; slot " + where + " = " + slot + "; row 0 2 = 2; row 0 3 = 2");
            }
        }
        run("EMPTY: SPILL 0, no ROWS", """
            begin 4; terms 3 1; terms 4 99; pattern "ab"; tick 2; spill = 1; slot 0 0 = 0
            terms 3 0 = -3; terms 2 6 = -3; spill = 1; slot 0 0 = 0
            terms 2 0 = 0; spill = 0; slot 0 0 = -1; slot 0 1 = 0
            pattern "ab"; tick 2; spill = 1; terms 3 1 = 1; spill = 0; slot 0 0 = -1; slot 0 1 = 0
            """);
        run("EMPTY: what was seen longest ago is forgotten", """
            begin 5; terms 2 4; terms 3 2; terms 4 99; pattern "bab"; tick 3; terms 3 2
            pattern "cd"; tick 2; each slot 0 = 2 3; ask 4 1; tick 1; each slot 0 = 4 3
            """);
    }

    private static void emptyByWindow() {
        for (int guard = 0; guard <= 5; guard++) {
            int one = guard == 2 ? 0 : 1;
            run("the GUARD is EMPTY at each WINDOW, OPENED in it 0, GUARD " + guard,
                "begin 4; terms 2 " + guard + "; terms 4 99; terms 5 4; terms 7 99; terms 13 0; ask 1 6; tick 4\n"
                + "count 1 = 4; row 1 2 = 4; row 1 5 = " + 4 * one + "; often 4 = 2; often 5 = 0\n"
                + "tick 1; row 1 2 = 1; row 1 5 = " + one + "; row 1 3 = 5; often 1 = 2; often 2 = 0\n"
                + "tick 3; count 1 = 8; row 1 2 = 2; row 1 5 = " + 2 * one + "; row 1 3 = 6\n"
                + "tick 1; row 1 2 = 0; row 1 5 = 0; row 1 3 = 6");
        }
        run("WINDOW 999", """
            begin 4; terms 5 999; terms 2 1; terms 4 99; ask 2 2; tick 200; tick 200; tick 200; tick 200; tick 199
            count 1 = 999; row 2 2 = 2; row 2 5 = 2; tick 1; row 2 2 = 0; row 2 5 = 0; row 2 3 = 2
            """);
        run("at a WINDOW SPILL is 0", """
            begin 4; terms 3 1; terms 4 99; terms 5 5; pattern "ab"; tick 5; spill = 1; tick 1; spill = 0; slot 0 0 = -1
            """);
    }

    // ---- 2

    private static void room() {
        run("48 REQUESTS at most", """
            begin 5; ask 0 47 = 47; ask 1 2 = -4; pair 1 2 2 = -4; pattern "bb" = -4
            ask 1 1 = 48; ask 1 1 = -4; pair 0 1 1 = -4; pattern "a" = -4; request 46 = 0; request 47 = 1; request 48 = -1
            tick 1 = 47; pattern "cd" = -4; pattern "c" = 48; pattern "c" = -4; request 47 = 2
            tick 1 = 47; pair 3 4 2 = -4; pair 3 4 1 = 48; pair 3 4 1 = -4; request 47 = 3
            drop = 48; pair 0 1 48 = 48; request 47 = 1; drop = 48; pattern "48a" = 48; drop = 48; ask 0 48 = 48
            """);
    }

    private static void first() {
        run("the FIRST is the first one, others go up", """
            begin 5; pattern "edcb"; request 0 = 4; tick 1 = 3; waiting = dcb; tick 1 = 2; waiting = cb
            tick 2 = 0; waiting = -; request 0 = -1; tick 1 = 0; told 0 = 4
            """);
        run("the FIRST may be the last that waits", """
            begin 5; terms 2 5; terms 4 1; terms 5 99; pattern "a"; tick 1; pattern "aaab"; tick 1; waiting = aaa
            tick 1; waiting = aaa; spent 3 = 1
            """);
    }

    private static void every() {
        run("EVERY: not at TIME 0, at each multiple", """
            begin 5; terms 7 4; tick 4; count 1 = 4; told 6 = 0; tick 1; told 6 = 1; tick 3; count 1 = 8; told 6 = 1
            tick 1; told 6 = 2; count 6 = 2; tick 4; told 6 = 3
            """);
        run("EVERY 99", """
            begin 5; terms 7 99; tick 99; told 6 = 0; count 4 = 0; tick 1; told 6 = 1; tick 98; count 1 = 198
            told 6 = 1; tick 1; told 6 = 2
            """);
        run("EVERY told on the way: the multiple counts", """
            begin 5; terms 7 99; tick 6; terms 7 4; tick 2; told 6 = 0; tick 1; told 6 = 1; terms 7 5; tick 1; told 6 = 1
            tick 1; told 6 = 2
            """);
    }

    private static void owed() {
        run("99 OWED at most", """
            begin 5; terms 7 4; terms 8 9
            tick 200; tick 200; tick 200; tick 108; count 1 = 708; count 4 = 97
            tick 1; count 4 = 98; tick 3; count 4 = 98; tick 1; count 4 = 99   # the tick at TIME 712
            tick 2; count 4 = 99; tick 1; count 4 = 98                         # one begins at 715
            tick 1; count 4 = 99; tick 3; count 4 = 99; tick 1; count 4 = 99   # at 720 one more would be 100
            tick 3; count 4 = 99; tick 1; count 4 = 98                         # at 724 one begins, of 99
            told 6 = 81
            """);
    }

    private static void late() {
        run("LATE 0: any that is OWED comes first", """
            begin 5; terms 7 4; terms 2 2; terms 13 0; ask 2 9; tick 4; told 6 = 0; told 0 = 4
            tick 1; told 6 = 1; told 0 = 4; count 4 = 0
            """);
        run("LATE 1: one is postponed, of two one begins", """
            begin 5; terms 7 4; terms 2 2; terms 13 0; terms 12 1; ask 2 19; tick 5; count 4 = 1; told 6 = 0; told 0 = 5
            tick 3; count 4 = 1; told 6 = 0; tick 1; count 4 = 1; told 6 = 1; told 0 = 8
            """);
        run("LATE 8: eight are postponed, of nine one begins", """
            begin 5; terms 7 4; terms 12 8; terms 0 999; terms 2 2; terms 13 0; ask 2 48
            tick 33; count 4 = 8; told 6 = 0; told 0 = 33
            tick 3; count 4 = 8; told 6 = 0; told 0 = 36; tick 1; count 4 = 8; told 6 = 1; told 0 = 36
            tick 1; count 4 = 8; told 6 = 1; told 0 = 37
            drop = 11; tick 1; count 4 = 7; told 6 = 2; tick 7; count 4 = 2; told 6 = 9; tick 1; count 4 = 1; told 6 = 10
            """);
        run("without a FIRST none is postponed: BLOCKED ones are none", """
            begin 5; terms 7 4; terms 12 8; terms 2 5; terms 4 4; ask 2 6; tick 4; count 4 = 0; told 0 = 4
            tick 1; told 6 = 1; count 4 = 0; count 2 = 2
            """);
    }

    private static void many() {
        run("the next MANY PLACES, round and round", """
            begin 5; terms 9 3; terms 7 4; terms 2 2; terms 13 0; pattern "bd"
            tick 2; each row 1 = 2 0 4 0 2; count 6 = 0
            tick 3; each row 1 = 0 0 0 0 2; count 6 = 3; told 6 = 3
            ask 1 1; tick 3; each row 1 = 2 0 2 0 2; tick 1; each row 1 = 0 0 2 0 0; count 6 = 1; told 6 = 6
            tick 4; count 6 = 4; each row 1 = 0 0 0 0 0
            """);
        run("MANY as the PLACES, one less, one more", """
            begin 5; terms 7 4; terms 9 5; tick 5; count 6 = 0; told 6 = 5
            terms 9 4; tick 4; count 6 = 4; told 6 = 9; terms 9 6; tick 4; count 6 = 0; told 6 = 15
            """);
        run("MANY 8 of four PLACES, of sixteen", """
            begin 4; terms 7 4; terms 9 8; tick 5; told 6 = 8; count 6 = 0
            begin 16; tick 5; told 6 = 8; count 6 = 8; tick 4; told 6 = 16; count 6 = 0; terms 9 1; tick 4; count 6 = 1
            begin 4; count 6 = 0; tick 5; count 6 = 1; tick 12; count 6 = 0
            """);
        run("PLACES are REFRESHED, not numbers", """
            begin 4; terms 7 4; terms 2 2; terms 13 0; swap 0 3; ask 1 1; tick 1; each row 1 = 0 0 2 2; tick 4
            each row 1 = 0 0 2 0; count 6 = 1; tick 8; each row 1 = 0 0 0 0
            """);
    }

    private static void takes() {
        run("TAKES 1 and 9", """
            begin 4; terms 7 20; tick 20; count 5 = 0; tick 1; count 5 = 0; spent 0 = 1; spent 3 = 20; terms 8 9
            tick 20; count 5 = 8; spent 0 = 2; ask 0 1; tick 8; count 5 = 0; spent 0 = 10; told 0 = 0; tick 1; told 0 = 1
            told 1 = 8
            """);
        run("OPENS 1 and 9", """
            begin 4; ask 0 3; tick 1; count 5 = 0; terms 6 9; tick 1; told 0 = 2; count 5 = 8; tick 8; told 0 = 2; count 5 = 0
            tick 1; told 0 = 3; told 1 = 11; terms 6 1; count 5 = 8; tick 3; count 5 = 5; spent 2 = 14
            """);
        run("NEAR 1 and 9", """
            begin 4; terms 4 1; terms 2 1; ask 1 1; tick 2; told 5 = 1; count 5 = 0; terms 10 9; tick 1; told 5 = 2; count 5 = 8
            ask 0 1; tick 8; count 5 = 0; told 0 = 1; spent 1 = 10; tick 1; told 0 = 2
            """);
        run("one thing at a time, REFRESHINGS first, then the QUEUE, then REQUESTS", """
            begin 4; terms 4 1; terms 2 1; terms 7 4; terms 6 4; ask 1 1; ask 2 1
            tick 1; queue = ac; told 0 = 1; tick 3; count 5 = 0; told 0 = 1
            tick 1; told 6 = 1; told 5 = 0; tick 1; told 5 = 1; tick 1; told 5 = 2; told 0 = 1; tick 1; told 0 = 2
            """);
    }

    private static void queueTerm() {
        run("QUEUE 1", """
            begin 6; terms 2 1; terms 4 1; ask 0 1; ask 5 1; tick 1; queue = b; tick 1; told 5 = 1; told 0 = 1; tick 1; told 0 = 2
            """);
        run("QUEUE 3: two, three, four are in it while REQUESTS wait", """
            begin 6; terms 2 1; terms 4 1; terms 11 3
            ask 2 2; tick 1; queue = bd; tick 1; told 5 = 0; told 0 = 2; undo 3
            terms 1 2; ask 1 2; tick 1; queue = acd; tick 1; told 5 = 1; told 0 = 1; undo 3
            ask 2 2; tick 1; queue = bdae; tick 1; told 5 = 1; told 0 = 1
            """);
        run("QUEUE 4: three, four", """
            begin 6; terms 2 1; terms 4 1; terms 11 4; terms 1 2
            ask 1 2; tick 1; queue = acd; tick 1; told 5 = 0; told 0 = 2; undo 3
            ask 2 2; tick 1; queue = bdae; tick 1; told 5 = 1; told 0 = 1
            """);
        run("QUEUE 8: seven, eight", """
            begin 16; terms 2 1; terms 4 1; terms 11 8; terms 1 2
            pattern "cgbb"; tick 2; queue = bdaefhi; tick 1; told 0 = 3; told 5 = 0; undo 3
            pattern "cgab"; tick 3; queue = bdaefhic; told 5 = 0; tick 1; told 0 = 3; told 5 = 1
            tick 7; told 5 = 8; told 0 = 3; tick 1; told 0 = 4
            """);
        run("without a FIRST one is enough", """
            begin 6; terms 2 1; terms 4 1; terms 11 8; ask 0 1; tick 1; queue = b; told 5 = 0; tick 1; told 5 = 1; queue = -
            """);
        run("BLOCKED REQUESTS are no FIRST for the QUEUE", """
            begin 6; terms 2 1; terms 4 1; terms 11 8; ask 0 1; tick 1; queue = b
            terms 2 5; ask 3 2; tick 1; told 0 = 2; queue = b; tick 1; told 5 = 1; count 2 = 1
            """);
    }

    private static void latestBegan() {
        run("the QUEUE goes on when the latest that began was one of it", """
            begin 6; terms 2 1; terms 4 1; terms 11 4; terms 1 2; terms 7 99
            ask 2 2; tick 2; told 5 = 1; queue = dae; tick 1; told 5 = 2; queue = ae; tick 2; told 5 = 4; told 0 = 1
            tick 1; told 0 = 2
            """);
        run("a REFRESHING in between: then the latest was none of it", """
            begin 6; terms 2 1; terms 4 1; terms 11 4; terms 1 2; terms 7 4; pattern "cccc"
            tick 4; told 5 = 3; queue = e; tick 1; told 6 = 1; queue = e; tick 1; told 0 = 2; queue = ebda
            """);
        run("a REQUEST in between", """
            begin 6; terms 2 1; terms 4 1; terms 11 2; terms 7 99; ask 0 1; tick 2; told 5 = 1; queue = -
            pattern "aa"; tick 1; queue = b; tick 1; told 0 = 3; told 5 = 1
            """);
        run("the latest one is kept over TICKS of none, and gone by begin()", """
            begin 6; terms 2 1; terms 4 1; terms 11 8; terms 7 99; ask 0 1; tick 9; told 5 = 1
            begin 6; pattern "cc"; tick 2; told 0 = 2; told 5 = 0
            """);
    }

    private static void waits() {
        run("WAIT: 0, and as many as 47 others take", """
            begin 5; terms 2 2; terms 13 0; terms 7 99; ask 1 1; tick 1; told 1 = 0; told 2 = 0; told 0 = 1
            tick 9; ask 1 2; tick 1; told 1 = 0; told 2 = 0; tick 1; told 1 = 1; told 2 = 1
            ask 1 48; tick 48; told 1 = 1129; told 2 = 47; told 0 = 51
            """);
        run("WAIT from when it was told", """
            begin 5; terms 6 3; ask 1 2; tick 1; ask 2 1; pair 3 4 1; tick 2; pattern "a"; tick 1; told 1 = 3
            tick 3; told 1 = 8; tick 3; told 1 = 16; tick 3; told 1 = 25; told 2 = 9; told 0 = 5
            """);
    }

    private static void spent() {
        run("SPENT of each sort, of none", """
            begin 5; each spent = 0 0 0 0; tick 3; each spent = 0 0 0 3; terms 4 1; terms 2 1; terms 7 20
            ask 0 1; tick 1; each spent = 0 0 1 3; tick 1; each spent = 0 1 1 3; tick 15; each spent = 0 1 1 18
            tick 1; each spent = 1 1 1 18; spent 4 = -2; spent -1 = -2; count 1 = 21
            """);
    }

    private static void paperTicks() {
        run("ON PAPER 500 TICKS at most", """
            begin 5; terms 2 2; terms 13 0; terms 0 999; terms 7 99; terms 12 8; terms 6 9
            hammer 2 54 0 = 108; hammer 2 55 0 = 110; hammer 2 56 0 = 112; hammer 2 57 0 = 112; hammer 2 99 0 = 112
            terms 6 5; hammer 2 99 0 = 198; terms 6 6; hammer 2 83 0 = 166; hammer 2 84 0 = 168; hammer 2 85 0 = 168
            """);
        // from 0 the DRAWS are 0, 3, 1, 4, 2, 0 modulo 5: the sixth waits for the WINDOW
        run("ON PAPER 499, 500 TICKS, and what would be 501", """
            begin 5; terms 2 5; terms 4 1
            terms 5 498; storm 0 6 1 = 499; terms 5 499; storm 0 6 1 = 500; terms 5 500; storm 0 6 1 = 500
            terms 5 998; storm 0 6 1 = 500; storm 0 5 1 = 5
            """);
        run("done(): 499, 500 TICKS, not in 500", """
            begin 5; terms 2 5; terms 4 1; ask 1 2
            terms 5 498; done 0 = 499; done 2 = 498; terms 5 499; done 0 = 500; done 2 = 499
            terms 5 500; done 0 = -1; done 2 = 0; terms 5 999; done 0 = -1
            """);
        run("ON PAPER the QUEUE and what is under way come to an end, too", """
            begin 5; terms 4 1; terms 2 1; terms 6 3; terms 10 4; terms 7 99
            storm 0 1 1 = 7; ask 0 1; tick 1; count 5 = 2; queue = b; storm 0 1 1 = 13; drop = 0
            """);
    }

    private static void peaks() {
        run("PEAK: as it is now, too", """
            begin 6; terms 2 2; terms 13 0; terms 0 999; ask 4 5; tick 5; each row 1 = 0 0 0 10 0 10
            hammer 0 1 0 = 10; hammer 0 4 0 = 10; hammer 0 5 0 = 10; hammer 0 6 0 = 12; hammer 4 1 0 = 12
            hammer 3 1 0 = 10
            """);
        run("PEAK: at any time in it", """
            begin 6; terms 2 1; terms 4 5; terms 0 999; hammer 2 4 0 = 8; hammer 2 5 0 = 10; hammer 2 6 0 = 10
            hammer 2 9 0 = 10; terms 15 1; hammer 0 5 0 = 10
            """);
        run("PEAK by HALF", """
            begin 4; terms 2 1; terms 4 1; terms 15 1; terms 0 999; terms 7 99; ask 2 1; ask 3 1
            hammer 1 1 0 = 4
            """);
    }

    private static void paperRequests() {
        run("ON PAPER those that wait are gone, WAITS begin anew, nothing changes", """
            begin 5; terms 2 2; terms 13 0; terms 0 999; terms 7 99; terms 12 8; ask 1 48; hammer 3 1 0 = 2; hammer 3 48 0 = 96; hammer 3 99 0 = 198
            feed "48c"; attack 3 = 96; storm 0 1 0 = 2; storm 0 1 1 = 1; count 2 = 48; told 0 = 0
            tick 1; row 0 1 = 2
            """);
    }

    // ---- PATTERNS

    private static void faulty(String title, String[][] cases) {
        for (String[] c : cases) {
            run(title + ": " + c[0], "begin 8; pattern \"" + c[0] + "\" = -3" + c[1] + "; fault 0 = " + c[1]
                + "; fault 1 = " + c[2] + "; count 9 = 0; count 2 = 0; count 7 = 1; pattern \"a\" = 1; fault 0 = 0; fault 1 = -1");
            if (c[0].length() <= 20) {
                run(title + ", attack: " + c[0], "begin 8; feed \"" + c[0] + "\"; attack " + c[0].length() + " = -3" + c[1]);
            }
        }
    }

    private static void whole(String title, String[][] cases) {
        for (String[] c : cases) {
            run(title + ": " + c[0], "begin 16; pattern \"" + c[0] + "\" = " + c[1].length() + "; fault 0 = 0; fault 1 = -1"
                + "; count 9 = 0; waiting = " + c[1]);
        }
    }

    private static void patternNumbers() {
        whole("a number of one or two digits, 1 to 48", new String[][] {
            {"1a", "a"}, {"2a", "aa"}, {"9a", "a".repeat(9)}, {"10a", "a".repeat(10)}, {"47a", "a".repeat(47)},
            {"48a", "a".repeat(48)}, {"01a", "a"}, {"09a", "a".repeat(9)}, {"1(a)", "a"}, {"48(a)", "a".repeat(48)},
            {"24(ab)", "ab".repeat(24)}, {"a2b", "abb"}, {"2a3b", "aabbb"}});
        faulty("a number that can't be", new String[][] {
            {"0a", "2", "0"}, {"49a", "2", "0"}, {"50a", "2", "0"}, {"99a", "2", "0"}, {"00a", "2", "0"},
            {"0(a)", "2", "0"}, {"49(a)", "2", "0"}, {"a0b", "2", "1"}, {"ab49c", "2", "2"}, {"(0a)", "2", "1"},
            {"100a", "2", "0"}, {"001a", "2", "0"}, {"123a", "2", "0"}, {"048a", "2", "0"}, {"000", "2", "0"},
            {"a1234567890b", "2", "1"}, {"2(3a100b)", "2", "4"}, {"99999999999999999999", "2", "0"},
            {"4294967297a", "2", "0"}, {"18446744073709551617", "2", "0"}});
        faulty("the first of a pattern's numbers", new String[][] {{"1a0b49c", "2", "2"}, {"49a0b", "2", "0"}});
    }

    private static void patternBrackets() {
        whole("at most 3 ( are open at a place", new String[][] {
            {"(a)", "a"}, {"((a))", "a"}, {"(((a)))", "a"}, {"(((a)b)c)", "abc"}, {"(((a))((b)))", "ab"},
            {"(((a)(b)(c)))", "abc"}, {"((a))((b))(((c)))d", "abcd"}, {"2(a2(b2(c)))", "abccbccabccbcc"},
            {"2(2(2(ab)))", "ab".repeat(8)}, {"(a)(b)(c)(d)(e)", "abcde"}});
        faulty("a fourth ( that would be open", new String[][] {
            {"((((a))))", "4", "3"}, {"a(b(c(d(e))))", "4", "7"}, {"(((a)(b(c))))", "4", "7"}, {"((((", "4", "3"},
            {"(((2(a))))", "4", "4"}, {"(((48(", "4", "5"}, {"((((((((", "4", "3"}, {"((a)((b)(c((", "4", "10"}});
    }

    private static void patternLetters() {
        whole("letters a to p", new String[][] {{"a", "a"}, {"p", "p"}, {"abcdefghijklmnop", "abcdefghijklmnop"}});
        faulty("a byte that is none", new String[][] {{"`", "1", "0"}, {"q", "1", "0"}, {"z", "1", "0"}, {"A", "1", "0"},
            {"a`", "1", "1"}, {"aq", "1", "1"}, {"a b", "1", "1"}, {"/", "1", "0"}, {":", "1", "0"}, {"a/", "1", "1"},
            {"2/a", "1", "1"}, {"2:a", "1", "1"}, {"a:", "1", "1"}, {"'", "1", "0"}, {"*", "1", "0"}, {"a'", "1", "1"},
            {"a*", "1", "1"}, {"a\u0000", "1", "1"}, {"\u00e1", "1", "0"}, {"a\u0080", "1", "1"}, {"\u00ff", "1", "0"},
            {"a\u00b1", "1", "1"}, {"\u00a8a)", "1", "0"}, {"(a\u00a9", "1", "2"}});
        faulty("a letter of no ROW", new String[][] {{"i", "3", "0"}, {"p", "3", "0"}, {"hi", "3", "1"}, {"2i", "3", "1"},
            {"(i", "3", "1"}, {"48i", "3", "2"}, {"h(h(h(i", "3", "6"}, {"aj)", "3", "1"}});
        run("letters of the fewest ROWS", """
            begin 4; pattern "d" = 1; pattern "e" = -33; fault 1 = 0; pattern "p" = -33; pattern "q" = -31
            begin 15; pattern "o" = 1; pattern "p" = -33; begin 16; pattern "p" = 1; pattern "q" = -31
            """);
    }

    private static void patternEnds() {
        faulty("the end: its length", new String[][] {{"", "1", "0"}, {"3", "1", "1"}, {"48", "1", "2"}, {"(", "1", "1"},
            {"((", "1", "2"}, {"(((", "1", "3"}, {"(a", "1", "2"}, {"((a)", "1", "4"}, {"a3", "1", "2"}, {"(a)3", "1", "4"},
            {"2(ab", "1", "4"}, {"(a2", "1", "3"}, {"3(", "1", "2"}});
        faulty("a ) that can't stand there", new String[][] {{")", "1", "0"}, {"a)", "1", "1"}, {"()", "1", "1"},
            {"(()", "1", "2"}, {"(a))", "1", "3"}, {"(3)", "1", "2"}, {"(a3)", "1", "3"}, {"3)", "1", "1"}, {"(a)b)", "1", "4"},
            {"((a)))", "1", "5"}, {"(a)()", "1", "4"}});
        run("the end is where n tells", """
            begin 4; feed "a(b)2c"; attack 1 = 2; attack 2 = -31; attack 3 = -31; attack 4 = 2; attack 5 = -31; attack 6 = 4
            attack 7 = -31; attack 20 = -31; attack 21 = -3; attack 0 = -31; attack -1 = -3; pattern 5 = -31; fault 1 = 5
            feed "a(b)2c"; pattern 2 = -31; fault 1 = 2; feed "a(b)2c"; pattern 4 = 2; feed "a(b)2c"; pattern 6 = 6
            feed "a(b)2c"; pattern 7 = -31; fault 1 = 6; feed "a"; pattern 0 = -31; fault 1 = 0; count 9 = 0
            """);
        run("the end of a full TAPE", "begin 8; terms 2 2; terms 13 0; terms 7 99; terms 12 8; feed \"" + "a".repeat(20) + "\"; feed \"" + "b".repeat(20) + "\"; feed \""
            + "(a)(b)(c)(d)(e)(f)((" + "\"\n" + """
            feed "a" = -4; count 9 = 60; attack 60 = -31; attack 46 = 42; attack 47 = -31; attack 43 = 40; pattern 60 = -31
            fault 0 = 1; fault 1 = 60; count 9 = 0
            """);
    }

    private static void patternFirstFault() {
        faulty("FAULTS: the first along the bytes", new String[][] {{"0i", "2", "0"}, {"i0a", "3", "0"}, {"(((0(", "2", "3"},
            {"((((0", "4", "3"}, {"((((i", "4", "3"}, {"(((i(", "3", "3"}, {")i", "1", "0"}, {"i)", "3", "0"}, {"q0", "1", "0"},
            {"0q", "2", "0"}, {"0)", "2", "0"}, {"0", "2", "0"}, {"49", "2", "0"}, {"100", "2", "0"}, {"a)0", "1", "1"},
            {"48aa)", "1", "4"}, {"48a48bi", "3", "6"}, {"48a48b0c", "2", "6"}, {"48a48b((((", "4", "9"}, {"48a48b", "5", "-1"},
            {"48a48(", "1", "6"}});
    }

    private static void patternInAll() {
        whole("48 REQUESTS in all", new String[][] {{"6(8a)", "a".repeat(48)}, {"47ab", "a".repeat(47) + "b"},
            {"3(4(4a))", "a".repeat(48)}, {"2(24a)", "a".repeat(48)}, {"16(a2b)", "abb".repeat(16)}});
        faulty("more than 48 in all", new String[][] {{"48aa", "5", "-1"}, {"a48a", "5", "-1"}, {"7(7a)", "5", "-1"},
            {"48(48(48a))", "5", "-1"}, {"2(25a)", "5", "-1"}, {"25(ab)", "5", "-1"}, {"2(24a)b", "5", "-1"},
            {"2(2(2(7a))", "1", "10"}, {"48(aa)", "5", "-1"}, {"a".repeat(49), "5", "-1"}, {"a".repeat(60), "5", "-1"},
            {"(48a)(48a)", "5", "-1"}});
        run("48 letters", "begin 4; pattern \"" + "abcd".repeat(12) + "\" = 48; request 47 = 3");
        run("48 in all, fewer have room", """
            begin 4; ask 0 1; pattern "48a" = -4; fault 0 = 0; fault 1 = -1; count 9 = 0; pattern "47a" = 48; drop
            pattern "48a" = 48; pattern "48aa" = -35; pattern "a" = -4; pattern "e" = -33
            """);
    }

    // ---- 3

    private static void undoneOf() {
        String[] calls = {"begin 5", "terms 4 9", "terms 2 3", "terms 3 8", "swap 0 5", "store 1 200", "weak 1 200", "ask 1 3",
            "pair 1 4 3", "pattern \"2(ab)\"", "drop", "refresh 3", "tick 1", "tick 200"};
        for (int guard = 0; guard <= 5; guard++) {
            for (String call : calls) {
                run("UNDONE: " + call + ", GUARD " + guard, "begin 6; terms 0 5; terms 1 2; terms 3 3; terms 15 1; terms 16 2\n"
                    + "terms 7 7; terms 13 40; terms 10 2; terms 6 2; terms 2 " + guard + "\n" + """
                    weak 3 7; ask 2 5; pair 0 5 6; ask 3 2; tick 19
                    """ + call + "; count 7 = 10; undo 1 = 9; undo 10 = -3; undo 9 = 0; undo 1 = -3");
            }
        }
    }

    private static void undoneTen() {
        run("10 at most can be UNDONE, the eldest are forgotten", """
            count 7 = 0; undo 1 = -3; drop; count 7 = 1; undo 2 = -3; undo 1 = 0
            store 0 1; store 0 2; store 0 3; store 0 4; store 0 5; store 0 6; store 0 7; store 0 8; store 0 9; count 7 = 9
            undo 10 = -3; store 0 10; count 7 = 10; undo 11 = -3; undo 10 = 0; data 0 0 = 0; undo 1 = -3
            store 0 1; store 0 2; store 0 3; store 0 4; store 0 5; store 0 6; store 0 7; store 0 8; store 0 9; store 0 10
            store 0 11; count 7 = 10; undo 10 = 0; data 0 0 = 1; undo 1 = -3; undo 0 = -3; undo -1 = -3; undo MIN = -3; undo MAX = -3
            """);
        run("UNDONE in parts, going on in between", """
            store 0 1; store 0 2; store 0 3; undo 2 = 1; data 0 0 = 1; store 0 4; count 7 = 2; undo 1 = 1; data 0 0 = 1
            undo 1 = 0; data 0 0 = 0
            store 0 1; store 0 2; store 0 3; store 0 4; store 0 5; store 0 6; store 0 7; store 0 8; store 0 9; store 0 10
            store 0 11; store 0 12; undo 3 = 7; data 0 0 = 9; store 0 13; store 0 14; store 0 15; store 0 16; count 7 = 10
            undo 4 = 6; data 0 0 = 9; undo 6 = 0; data 0 0 = 3; undo 1 = -3
            """);
        run("refused calls and others can't be UNDONE", """
            drop; begin 3 = -3; begin 17 = -3; terms 17 0 = -2; terms 0 0 = -3; swap 0 0 = -3; swap 0 8 = -2; store 8 0 = -2
            store 0 256 = -3; weak 8 0 = -2; weak 0 256 = -3; ask 8 1 = -2; ask 0 0 = -3; pair 0 0 1 = -3; pair 8 0 1 = -2
            pattern 1 = -3; pattern 0 = -31; refresh 8 = -2; tick 0 = -3; tick 201 = -3; feed "a"; image 0; count 7 = 1
            """);
        run("all but THE TAPE and the FAULT is UNDONE", """
            ask 0 47; feed "2a"; pattern 2 = -4; fault 0 = 0; pattern "a(" = -31; fault 1 = 2; feed "a"; store 0 7; undo 2 = 0
            count 9 = 20; fault 0 = 1; fault 1 = 2; pattern 1 = 1; undo 1 = 0; count 9 = 0; fault 0 = 0; waiting = -
            """);
    }

    private static void images() {
        run("IMAGES 0 to 1, none at first", """
            restore 0 = -6; restore 1 = -6; restore 2 = -2; restore -1 = -2; image 2 = -2; image -1 = -2; image MAX = -2
            image MIN = -2; restore MAX = -2; restore MIN = -2
            image 0 = 0; restore 1 = -6; restore 0 = 0; image 1 = 0; restore 1 = 0
            """);
        run("nothing can be UNDONE behind", """
            store 0 1; store 0 2; image 0; count 7 = 2; store 0 3; count 7 = 3; restore 0; count 7 = 0; undo 1 = -3; data 0 0 = 2
            store 0 4; count 7 = 1; undo 1 = 0; data 0 0 = 2
            """);
        run("an IMAGE stays till another one is made", """
            begin 5; ask 1 3; image 0; tick 2; image 1; begin 9; restore 0; waiting = bbb; count 0 = 5; tick 3; restore 0
            waiting = bbb; restore 1; waiting = b; image 0; begin 4; restore 0; waiting = b; undo 1 = -3; restore 1; waiting = b
            """);
        run("an IMAGE is not UNDONE", """
            store 0 1; image 0; store 0 2; undo 2 = 0; data 0 0 = 0; restore 0 = 0; data 0 0 = 1
            """);
        run("an IMAGE holds neither THE TAPE nor the FAULT", """
            feed "a"; pattern 21 = -3; image 0; pattern 2 = -31; fault 1 = 1; restore 0; count 9 = 0; fault 0 = 1; fault 1 = 1; feed "c"; restore 0; count 9 = 20
            pattern 1 = 1; waiting = c
            """);
    }
}
