/** A test or more for each promise of the document, its answers reckoned by hand. */
public final class PromiseTest {
    private static final int LIMIT = 0;
    private static final int REACH = 1;
    private static final int GUARD = 2;
    private static final int SIZE = 3;
    private static final int STEP = 4;
    private static final int WINDOW = 5;
    private static final int OPENS = 6;
    private static final int EVERY = 7;
    private static final int TAKES = 8;
    private static final int MANY = 9;
    private static final int NEAR = 10;
    private static final int QUEUE = 11;
    private static final int LATE = 12;
    private static final int CHANCE = 13;
    private static final int KNOWS = 14;
    private static final int HALF = 15;
    private static final int SCRUB = 16;
    /** Of each TERM the least, what it is at first, the greatest. */
    static final int[][] RANGE = {{1, 24, 999}, {1, 1, 2}, {0, 0, 5}, {1, 2, 8}, {1, 4, 99}, {4, 64, 999},
        {1, 1, 9}, {4, 16, 99}, {1, 1, 9}, {1, 1, 8}, {1, 1, 9}, {1, 1, 8}, {0, 0, 8}, {0, 10, 100}, {0, 1, 1},
        {0, 0, 1}, {0, 0, 2}};

    private static int wrong = 0;
    private static int asked = 0;
    private static String part = "";

    private static void due(String call, int got, int want) {
        asked++;
        if (got != want) {
            wrong++;
            System.out.println(part + ": " + call + " answered " + got + ", due is " + want);
        }
    }

    public static void main(String[] args) {
        newObject();
        begins();
        termsAreTold();
        swaps();
        stores();
        weakBits();
        feeds();
        patterns();
        patternFaults();
        patternFaultOrder();
        patternRoom();
        faults();
        asks();
        pairs();
        drops();
        refreshes();
        ticks();
        roundRefreshes();
        postponed();
        nearRefreshes();
        rowsTold();
        places();
        dataTold();
        slots();
        tables();
        sketches();
        latest();
        blocks();
        byChance();
        spills();
        queues();
        knows();
        requests();
        often();
        missed();
        most();
        spent();
        told();
        scrubs();
        couldAndLeast();
        hammers();
        breaks();
        worstAndOrder();
        fewest();
        sure();
        choice();
        attack();
        by();
        coarse();
        small();
        done();
        storm();
        undo();
        images();
        allIsBack();
        counts();
        sixteenRows();
        end();
    }

    private static void end() {
        System.out.println("PromiseTest: " + asked + " answers, " + wrong + " wrong");
        if (wrong != 0) {
            System.exit(1);
        }
    }

    private static RowGuard of(int rows, int... terms) {
        RowGuard x = new RowGuard();
        due("begin(" + rows + ")", x.begin(rows), rows);
        for (int i = 0; i + 1 < terms.length; i += 2) {
            due("terms(" + terms[i] + ", " + terms[i + 1] + ")", x.terms(terms[i], terms[i + 1]), RANGE[terms[i]][1]);
        }
        return x;
    }

    private static int feed(RowGuard x, String signs) {
        int[] a = Calls.bytesOf(signs);
        return x.feed(a[0], a[1], a[2], a[3], a[4]);
    }

    private static int pattern(RowGuard x, String signs) {
        for (int i = 0; i == 0 || i < signs.length(); i += 20) {
            feed(x, signs.substring(i, Math.min(signs.length(), i + 20)));
        }
        return x.pattern(signs.length());
    }

    private static String waiting(RowGuard x) {
        StringBuilder all = new StringBuilder();
        for (int i = 0; x.request(i) >= 0; i++) {
            all.append((char) ('a' + x.request(i)));
        }
        return all.toString();
    }

    private static String inQueue(RowGuard x) {
        StringBuilder all = new StringBuilder();
        for (int i = 0; x.queued(i) >= 0; i++) {
            all.append((char) ('a' + x.queued(i)));
        }
        return all.toString();
    }

    private static void same(String call, String got, String want) {
        due(call + " \"" + got + "\" as \"" + want + "\"", got.equals(want) ? 1 : 0, 1);
    }

    private static void newObject() {
        part = "promise 1";
        RowGuard x = new RowGuard();
        due("NONE", RowGuard.NONE, -1);
        due("count(0)", x.count(0), 8);
        for (int k = 1; k <= 9; k++) {
            due("count(" + k + ")", x.count(k), 0);
        }
        for (int k = 0; k < 17; k++) {
            due("count(" + (10 + k) + ")", x.count(10 + k), RANGE[k][1]);
        }
        for (int r = 0; r < 8; r++) {
            due("row(r, 0)", x.row(r, 0), r);
            due("at(r)", x.at(r), r);
            for (int what = 1; what <= 5; what++) {
                due("row(r, what)", x.row(r, what), 0);
            }
            due("data(r, 0)", x.data(r, 0), 0);
            due("data(r, 1)", x.data(r, 1), 0);
            due("data(r, 2)", x.data(r, 2), 1 << r);
            due("data(r, 4)", x.data(r, 4), 0);
        }
        due("fault(0)", x.fault(0), 0);
        due("fault(1)", x.fault(1), -1);
    }

    private static void begins() {
        part = "promise 2";
        RowGuard x = new RowGuard();
        due("begin(3)", x.begin(3), -3);
        due("begin(17)", x.begin(17), -3);
        due("begin(MIN)", x.begin(Integer.MIN_VALUE), -3);
        due("begin(MAX)", x.begin(Integer.MAX_VALUE), -3);
        due("count(7)", x.count(7), 0);
        due("begin(4)", x.begin(4), 4);
        due("at(4)", x.at(4), -2);
        due("begin(16)", x.begin(16), 16);
        due("data(8, 2)", x.data(8, 2), 1);
        due("data(15, 2)", x.data(15, 2), 128);
        x = of(8, LIMIT, 3, STEP, 1, NEAR, 5, LATE, 1, EVERY, 4, SCRUB, 1);
        x.store(4, 9);
        x.weak(4, 255);
        x.swap(0, 7);
        x.tick(5);
        x.ask(3, 20);
        x.tick(5);
        x.refresh(5);
        for (int k = 1; k <= 6; k++) {
            due("count(" + k + ") ahead", x.count(k), k == 1 ? 10 : k == 2 ? 19 : 1);
        }
        due("begin(8)", x.begin(8), 8);
        for (int k = 1; k <= 6; k++) {
            due("count(" + k + ")", x.count(k), 0);
        }
        due("count(7)", x.count(7), 10);
        due("count(8)", x.count(8), 0);
        due("count(27)", x.count(27), 0);
        due("TERMS stay", x.count(10), 3);
        due("TERMS stay", x.count(14), 1);
        for (int r = 0; r < 8; r++) {
            due("PLACE", x.row(r, 0), r);
            due("at", x.at(r), r);
            for (int what = 1; what <= 5; what++) {
                due("row(" + r + ", " + what + ")", x.row(r, what), 0);
            }
            due("row(r, 6)", x.row(r, 6), -1);
            due("DATA", x.data(r, 0), 0);
            due("GOOD", x.data(r, 1), 0);
            due("WEAK", x.data(r, 2), 1 << r);
        }
        for (int k = 0; k < 9; k++) {
            due("told(" + k + ")", x.told(k), 0);
        }
        for (int k = 0; k < 4; k++) {
            due("spent(" + k + ")", x.spent(k), 0);
        }
        due("slot(0, 0)", x.slot(0, 0), -1);
        due("slot(0, 1)", x.slot(0, 1), 0);
        x = of(5, GUARD, 2, CHANCE, 18);
        x.ask(0, 2);
        x.tick(3);
        due("17 below 18, 45 not", x.told(4), 1);
        x.begin(5);
        x.ask(0, 2);
        x.tick(3);
        due("x is 17 again", x.told(4), 1);
        x = of(5, STEP, 1, QUEUE, 8);
        x.ask(2, 1);
        x.tick(2);
        due("one of the QUEUE began latest", x.told(5), 1);
        x.begin(5);
        x.ask(2, 2);
        x.tick(2);
        due("that is forgotten", x.told(5), 0);
    }

    private static void termsAreTold() {
        part = "promise 3";
        RowGuard x = new RowGuard();
        due("terms(-1, 5)", x.terms(-1, 5), -2);
        due("terms(17, 1)", x.terms(17, 1), -2);
        due("terms(17, -9)", x.terms(17, -9), -2);
        for (int k = 0; k < 17; k++) {
            due("below", x.terms(k, RANGE[k][0] - 1), -3);
            due("above", x.terms(k, RANGE[k][2] + 1), -3);
            due("as it was", x.count(10 + k), RANGE[k][1]);
            due("least", x.terms(k, RANGE[k][0]), RANGE[k][1]);
            due("greatest", x.terms(k, RANGE[k][2]), RANGE[k][0]);
            due("as told", x.count(10 + k), RANGE[k][2]);
        }
        x = of(5);
        x.ask(1, 2);
        x.tick(2);
        due("row(1, 5)", x.row(1, 5), 2);
        x.terms(STEP, 3);
        x.terms(CHANCE, 3);
        due("COUNT stays", x.row(1, 5), 2);
        due("terms(3, 2)", x.terms(SIZE, 2), 2);
        due("EMPTY by SIZE, be it the same", x.row(1, 5), 0);
        due("slot(0, 0)", x.slot(0, 0), -1);
        x.ask(1, 2);
        x.tick(2);
        due("row(1, 5)", x.row(1, 5), 2);
        due("terms(2, 0)", x.terms(GUARD, 0), 0);
        due("EMPTY by GUARD", x.row(1, 5), 0);
        x.terms(SIZE, 1);
        x.ask(1, 1);
        x.ask(2, 1);
        x.tick(2);
        due("spill()", x.spill(), 1);
        x.terms(GUARD, 0);
        due("SPILL 0", x.spill(), 0);
    }

    private static void swaps() {
        part = "promise 4";
        RowGuard x = of(6);
        due("swap(-1, 0)", x.swap(-1, 0), -2);
        due("swap(0, 6)", x.swap(0, 6), -2);
        due("swap(6, 6)", x.swap(6, 6), -2);
        due("swap(2, 2)", x.swap(2, 2), -3);
        x.ask(2, 1);
        x.tick(1);
        due("swap(1, 5)", x.swap(1, 5), 4);
        due("DISTURBED stays with ROW 1", x.row(1, 1), 2);
        due("ROW 5", x.row(5, 1), 0);
        due("row(1, 0)", x.row(1, 0), 5);
        due("row(5, 0)", x.row(5, 0), 1);
        due("at(1)", x.at(1), 5);
        due("at(5)", x.at(5), 1);
        due("swap(0, 5)", x.swap(0, 5), 1);
        due("at(0)", x.at(0), 5);
        due("at(1)", x.at(1), 0);
        due("swap(1, 5)", x.swap(1, 5), 5);
        x.ask(2, 1);
        x.tick(1);
        due("beside PLACE 2", x.row(0, 1), 2);
        due("beside PLACE 2", x.row(3, 1), 4);
    }

    private static void stores() {
        part = "promise 5";
        RowGuard x = of(5, LIMIT, 2, SCRUB, 1, EVERY, 4);
        due("store(-1, 0)", x.store(-1, 0), -2);
        due("store(5, 256)", x.store(5, 256), -2);
        due("store(4, 256)", x.store(4, 256), -3);
        due("store(4, -1)", x.store(4, -1), -3);
        due("store(4, 255)", x.store(4, 255), 0);
        due("store(3, 0)", x.store(3, 0), 0);
        due("data(4, 0)", x.data(4, 0), 255);
        due("data(4, 1)", x.data(4, 1), 255);
        x.weak(0, 5);
        x.ask(1, 1);
        x.tick(1);
        due("row(0, 4)", x.row(0, 4), 1);
        due("data(0, 0)", x.data(0, 0), 5);
        x.tick(4);
        due("LOST", x.data(0, 4), 1);
        due("store(0, 7)", x.store(0, 7), 5);
        due("not LOST", x.data(0, 4), 0);
        due("count(27)", x.count(27), 0);
        due("it FLIPPED still", x.row(0, 4), 1);
        due("data(0, 1)", x.data(0, 1), 7);
    }

    private static void weakBits() {
        part = "promise 6";
        RowGuard x = of(5, LIMIT, 2);
        due("weak(5, 0)", x.weak(5, 0), -2);
        due("weak(-1, 256)", x.weak(-1, 256), -2);
        due("weak(1, 256)", x.weak(1, 256), -3);
        due("weak(1, -1)", x.weak(1, -1), -3);
        due("weak(1, 240)", x.weak(1, 240), 2);
        due("weak(1, 255)", x.weak(1, 255), 240);
        due("weak(1, 0)", x.weak(1, 0), 255);
        due("data(1, 2)", x.data(1, 2), 0);
        x.weak(3, 240);
        x.store(3, 60);
        x.ask(2, 1);
        x.tick(1);
        due("no bit is WEAK", x.data(1, 0), 0);
        due("but it FLIPPED", x.row(1, 4), 1);
        due("60 with 240 others", x.data(3, 0), 204);
        due("data(3, 3)", x.data(3, 3), 4);
    }

    private static void feeds() {
        part = "promise 7";
        RowGuard x = of(16);
        due("feed", feed(x, "abcdefghijklmnopabcd"), 20);
        due("feed", feed(x, "e"), 40);
        due("feed", x.feed(-1, 0, 0, 0, 0), 60);
        due("feed", x.feed(0, 0, 0, 0, 0), -4);
        due("count(9)", x.count(9), 60);
        due("count(7)", x.count(7), 1);
        due("pattern(21)", x.pattern(21), 21);
        same("waiting", waiting(x), "abcdefghijklmnopabcde");
        due("feed again", feed(x, "p"), 20);
        due("undo leaves THE TAPE", x.undo(1), 1);
        due("count(9)", x.count(9), 20);
        due("begin leaves THE TAPE", x.begin(4), 4);
        due("count(9)", x.count(9), 20);
        due("p is no ROW now", x.pattern(1), -33);
    }

    private static void patterns() {
        part = "promise 8";
        RowGuard x = of(16);
        due("pattern(-1)", x.pattern(-1), -3);
        due("pattern(1)", x.pattern(1), -3);
        feed(x, "ab");
        due("pattern(21)", x.pattern(21), -3);
        due("THE TAPE stays", x.count(9), 20);
        due("pattern(2)", x.pattern(2), 2);
        due("THE TAPE is empty", x.count(9), 0);
        due("behind others", pattern(x, "3c"), 5);
        same("waiting", waiting(x), "abccc");
        x.drop();
        due("pattern", pattern(x, "2(a3b)c"), 9);
        same("waiting", waiting(x), "abbbabbbc");
        x.drop();
        due("pattern", pattern(x, "2(a2(b2(cp)d)e)"), 28);
        same("waiting", waiting(x), "abcpcpdbcpcpdeabcpcpdbcpcpde");
    }

    private static void patternFaults() {
        part = "promise 8, FAULTS";
        String[] signs = {"", "q", "`", "A", " ", "a ", "a)", ")", "()", "(a", "(", "3", "03", "3)", "(3)", "(a3)", "a0b",
            "0", "00", "49a", "99a", "100a", "001a", "1a", "01a", "48a", "i", "2i", "aai", "((((a))))", "(((a)))",
            "(((a))(b))", "(((4(", "a(b(c(d(e", "48ab", "7(7a)", "48(48(48(48(", "48(48(48a))", "0(", "12", "123",
            "a123b", "(a)3", "a()", "(a1)", "a1", "(a))", "2(a)(", "ab((c)", "49", "0)", "i(", "48ai", "48a0"};
        int[] kinds = {1, 1, 1, 1, 1, 1, 1, 1, 1, 1, 1, 1, 1, 1, 1, 1, 2,
            2, 2, 2, 2, 2, 2, 0, 0, 0, 3, 3, 3, 4, 0,
            0, 4, 4, 5, 5, 4, 5, 2, 1, 2,
            2, 1, 1, 1, 1, 1, 1, 1, 2, 2, 3, 3, 2};
        int[] at = {0, 0, 0, 0, 0, 1, 1, 0, 1, 2, 1, 1, 2, 1, 2, 3, 1,
            0, 0, 0, 0, 0, 0, -1, -1, -1, 0, 1, 2, 3, -1,
            -1, 4, 7, -1, -1, 11, -1, 0, 2, 0,
            1, 4, 2, 3, 2, 3, 5, 6, 0, 0, 0, 3, 3};
        for (int i = 0; i < signs.length; i++) {
            RowGuard x = of(8);
            int got = pattern(x, signs[i]);
            if (kinds[i] > 0) {
                due("pattern of " + signs[i], got, -30 - kinds[i]);
                due("count(2) of " + signs[i], x.count(2), 0);
                due("count(7) of " + signs[i], x.count(7), 1);
            } else {
                due("pattern of " + signs[i], got > 0 ? 1 : 0, 1);
            }
            due("count(9) of " + signs[i], x.count(9), 0);
            due("fault(0) of " + signs[i], x.fault(0), kinds[i]);
            due("fault(1) of " + signs[i], x.fault(1), at[i]);
        }
    }

    private static void patternFaultOrder() {
        part = "promise 8, bytes above 127";
        RowGuard x = of(8);
        x.feed(0xE1616161, 0, 0, 0, 0);
        due("byte 225", x.pattern(2), -31);
        due("fault(1)", x.fault(1), 0);
        x.feed(0x61616180, 0, 0, 0, 0);
        due("the first three", x.pattern(3), 3);
        x.feed(0x61616180, 0, 0, 0, 0);
        due("byte 128", x.pattern(4), -31);
        due("fault(1)", x.fault(1), 3);
        StringBuilder sixty = new StringBuilder();
        for (int i = 0; i < 60; i++) {
            sixty.append('a');
        }
        due("60 bytes, 60 REQUESTS", pattern(x, sixty.toString()), -35);
        due("fault(1)", x.fault(1), -1);
        due("digits without end", pattern(x, sixty.toString().replace('a', '0')), -32);
        due("fault(1)", x.fault(1), 0);
        due("as many ones", pattern(x, sixty.toString().replace('a', '1')), -32);
    }

    private static void patternRoom() {
        part = "promise 8, room";
        RowGuard x = of(8);
        due("a number without a PART", pattern(x, "3"), -31);
        due("it is forgotten", pattern(x, "a"), 1);
        due("no byte behind a PATTERN", x.pattern(0), -31);
        due("an open one", pattern(x, "2(a"), -31);
        due("it is forgotten", pattern(x, "(ab)c"), 4);
        same("waiting", waiting(x), "aabc");
        x.undo(2);
        x.ask(0, 46);
        due("48", pattern(x, "2b"), 48);
        due("49", pattern(x, "b"), -4);
        due("THE TAPE is empty", x.count(9), 0);
        due("no FAULT", x.fault(0), 0);
        due("no place", x.fault(1), -1);
        due("as many wait", x.count(2), 48);
        due("a FAULT comes first", pattern(x, "b)"), -31);
        due("more than 48 in all", pattern(x, "48ba"), -35);
        due("count(7)", x.count(7), 3);
        x.drop();
        due("48 at most", pattern(x, "48a"), 48);
    }

    private static void faults() {
        part = "promise 9";
        RowGuard x = of(8);
        due("pattern(0)", x.pattern(0), -31);
        due("fault(0)", x.fault(0), 1);
        due("fault(1)", x.fault(1), 0);
        due("fault(2)", x.fault(2), -1);
        due("fault(-1)", x.fault(-1), -1);
        due("pattern(1)", x.pattern(1), -3);
        due("-3 leaves it", x.fault(0), 1);
        feed(x, "a(");
        due("attack(2)", x.attack(2), -31);
        due("attack keeps none", x.fault(1), 0);
        due("pattern(2)", x.pattern(2), -31);
        due("fault(1)", x.fault(1), 2);
        x.ask(1, 1);
        x.undo(1);
        x.begin(5);
        due("not UNDONE, nor begun", x.fault(1), 2);
        due("pattern", pattern(x, "a"), 1);
        due("fault(0)", x.fault(0), 0);
        due("fault(1)", x.fault(1), -1);
    }

    private static void asks() {
        part = "promise 10";
        RowGuard x = of(5);
        due("ask(-1, 1)", x.ask(-1, 1), -2);
        due("ask(5, 0)", x.ask(5, 0), -2);
        due("ask(4, 0)", x.ask(4, 0), -3);
        due("ask(4, 49)", x.ask(4, 49), -3);
        due("ask(4, 3)", x.ask(4, 3), 3);
        due("ask(0, 46)", x.ask(0, 46), -4);
        due("ask(0, 49)", x.ask(0, 49), -3);
        due("ask(0, 45)", x.ask(0, 45), 48);
        due("ask(0, 1)", x.ask(0, 1), -4);
        due("request(2)", x.request(2), 4);
        due("request(3)", x.request(3), 0);
        due("request(47)", x.request(47), 0);
        due("request(48)", x.request(48), -1);
    }

    private static void pairs() {
        part = "promise 11";
        RowGuard x = of(5);
        due("pair(5, 1, 1)", x.pair(5, 1, 1), -2);
        due("pair(1, -1, 0)", x.pair(1, -1, 0), -2);
        due("pair(5, 5, 1)", x.pair(5, 5, 1), -2);
        due("pair(1, 2, 0)", x.pair(1, 2, 0), -3);
        due("pair(1, 2, 49)", x.pair(1, 2, 49), -3);
        due("pair(1, 1, 1)", x.pair(1, 1, 1), -3);
        due("pair(3, 1, 1)", x.pair(3, 1, 1), 1);
        due("pair(3, 1, 4)", x.pair(3, 1, 4), 5);
        same("waiting", waiting(x), "ddbdb");
        due("pair(3, 1, 44)", x.pair(3, 1, 44), -4);
        due("pair(1, 1, 44)", x.pair(1, 1, 44), -3);
        due("pair(3, 1, 43)", x.pair(3, 1, 43), 48);
        x.drop();
        due("pair(3, 1, 48)", x.pair(3, 1, 48), 48);
    }

    private static void drops() {
        part = "promise 12";
        RowGuard x = of(5);
        x.ask(1, 7);
        x.tick(1);
        due("drop()", x.drop(), 6);
        due("count(2)", x.count(2), 0);
        due("drop()", x.drop(), 0);
        due("count(7)", x.count(7), 5);
        x.tick(5);
        due("told(0)", x.told(0), 1);
    }

    private static void refreshes() {
        part = "promise 13";
        RowGuard x = of(5, HALF, 1, SCRUB, 2, LIMIT, 2, STEP, 1);
        due("refresh(5)", x.refresh(5), -2);
        due("refresh(-1)", x.refresh(-1), -2);
        x.ask(2, 1);
        x.tick(1);
        due("refresh(1)", x.refresh(1), 2);
        due("row(1, 1)", x.row(1, 1), 0);
        due("refresh(1)", x.refresh(1), 0);
        due("never SCRUBBED", x.data(1, 0), 2);
        due("no DISTURBING", x.row(0, 1), 0);
        due("in the QUEUE still", x.row(1, 6), 0);
        due("told(5)", x.told(5), 0);
        due("told(6)", x.told(6), 0);
        due("TIME", x.count(1), 1);
    }

    private static void ticks() {
        part = "promise 14";
        RowGuard x = of(5, OPENS, 3);
        due("tick(0)", x.tick(0), -3);
        due("tick(201)", x.tick(201), -3);
        due("tick(200)", x.tick(200), 0);
        due("TIME", x.count(1), 200);
        x = of(5, OPENS, 3);
        x.ask(2, 3);
        due("tick(1)", x.tick(1), 2);
        due("to go", x.count(5), 2);
        due("OPENED as it begins", x.row(2, 3), 1);
        due("DISTURBED as it begins", x.row(1, 1), 2);
        due("tick(2)", x.tick(2), 2);
        due("to go", x.count(5), 0);
        due("tick(1)", x.tick(1), 1);
        due("WAIT of the second", x.told(1), 3);
        due("tick(3)", x.tick(3), 0);
        due("WAIT of the third", x.told(1), 9);
        due("greatest", x.told(2), 6);
        due("spent(2)", x.spent(2), 7);
        x.tick(3);
        due("spent(2)", x.spent(2), 9);
        due("spent(3)", x.spent(3), 1);
        x = of(5, WINDOW, 4, GUARD, 1);
        x.ask(2, 3);
        x.tick(4);
        due("OPENED in this WINDOW", x.row(2, 2), 3);
        due("COUNT", x.row(2, 5), 3);
        x.ask(2, 1);
        x.tick(1);
        due("OPENED in the next", x.row(2, 2), 1);
        due("ever", x.row(2, 3), 4);
        due("COUNT", x.row(2, 5), 1);
        x.tick(3);
        due("till the next", x.row(2, 2), 1);
        x.tick(1);
        due("the next", x.row(2, 2), 0);
    }

    private static void roundRefreshes() {
        part = "promise 14, REFRESHINGS";
        RowGuard x = of(5, EVERY, 4, TAKES, 2, MANY, 3);
        x.ask(1, 1);
        x.tick(4);
        due("none at TIME 0 to 3", x.told(6), 0);
        x.tick(1);
        due("three at TIME 4", x.told(6), 3);
        due("next", x.count(6), 3);
        due("to go", x.count(5), 1);
        due("row(0, 1)", x.row(0, 1), 0);
        due("row(2, 1)", x.row(2, 1), 0);
        x.tick(4);
        due("round at TIME 8", x.count(6), 1);
        due("told(6)", x.told(6), 6);
        due("spent(0)", x.spent(0), 3);
        x = of(4, MANY, 8, EVERY, 4);
        x.tick(5);
        due("each twice", x.told(6), 8);
        due("round twice", x.count(6), 0);
        x = of(6, EVERY, 4, MANY, 2);
        x.swap(0, 5);
        x.ask(1, 1);
        x.tick(2);
        due("row(5, 1) ahead", x.row(5, 1), 2);
        x.tick(3);
        due("PLACES count, not numbers", x.row(5, 1), 0);
        due("row(2, 1)", x.row(2, 1), 2);
    }

    private static void postponed() {
        part = "promise 14, LATE";
        RowGuard x = of(5, EVERY, 4, LATE, 2, LIMIT, 999, STEP, 99);
        x.ask(2, 48);
        x.tick(12);
        due("two are OWED", x.count(4), 2);
        due("none began", x.told(6), 0);
        x.tick(1);
        due("the third has one begin", x.told(6), 1);
        due("OWED", x.count(4), 2);
        due("told(0)", x.told(0), 12);
        x.drop();
        x.tick(2);
        due("without a FIRST they begin", x.told(6), 3);
        due("OWED", x.count(4), 0);
        x = of(5, EVERY, 4, TAKES, 9);
        x.tick(200);
        x.tick(200);
        x.tick(200);
        due("one in nine TICKS", x.told(6), 67);
        due("99 at most", x.count(4), 149 - 67 > 99 ? 99 : 149 - 67);
        x.tick(200);
        due("of 99 one began at TIME 796", x.count(4), 98);
        x.tick(1);
        due("99 at TIME 800", x.count(4), 99);
        x.tick(4);
        due("99 at most", x.count(4), 99);
    }

    private static void nearRefreshes() {
        part = "promise 14, the QUEUE";
        RowGuard x = of(5, STEP, 1, QUEUE, 3, NEAR, 2);
        x.ask(2, 2);
        x.tick(2);
        due("two are too few while REQUESTS wait", x.told(5), 0);
        due("told(0)", x.told(0), 2);
        same("queue", inQueue(x), "bd");
        x.tick(1);
        due("without a FIRST it begins", x.told(5), 1);
        due("NEAR TICKS", x.count(5), 1);
        x.ask(2, 2);
        x.tick(2);
        due("the latest was one of the QUEUE", x.told(5), 2);
        x.tick(2);
        due("the rest behind", x.told(0), 3);
        due("spent(1)", x.spent(1), 4);
        x = of(5, STEP, 1, QUEUE, 3, EVERY, 4);
        x.ask(1, 1);
        x.ask(3, 3);
        x.tick(3);
        due("a, c, e wait: three", x.told(5), 1);
        same("queue", inQueue(x), "ce");
        due("told(0)", x.told(0), 2);
        x.tick(1);
        same("queue", inQueue(x), "e");
        x.tick(1);
        due("a REFRESHING comes first", x.told(6), 1);
        same("queue", inQueue(x), "e");
        x.tick(1);
        due("then the latest was none of the QUEUE", x.told(0), 3);
        x = of(5, STEP, 99, REACH, 2, LIMIT, 2);
        x.ask(2, 1);
        x.tick(1);
        due("one PLACE off", x.told(3), 2);
        x.ask(2, 1);
        x.tick(1);
        due("then those two PLACES off", x.told(3), 4);
        due("but ROW 2", x.count(8), 27);
        x = of(5, STEP, 1, HALF, 1, REACH, 2);
        x.ask(2, 1);
        x.tick(1);
        same("by distances, the lower one first", inQueue(x), "bdae");
        due("two PLACES off", x.row(0, 1), 1);
        due("one PLACE off", x.row(1, 1), 2);
        x.tick(1);
        due("REFRESHED", x.row(1, 1), 0);
        due("DISTURBS others", x.row(0, 1), 3);
        due("DISTURBS others", x.row(2, 1), 2);
        due("DISTURBS others", x.row(3, 1), 3);
        due("two PLACES off alone", x.row(4, 1), 1);
        due("the GUARD doesn't see that", x.row(1, 5), 0);
        due("nor is it OPENED", x.row(1, 3), 0);
        x = of(5, STEP, 1);
        x.ask(2, 1);
        x.tick(2);
        due("by HALF 0 none", x.row(0, 1), 0);
        due("by HALF 0 none", x.row(2, 1), 0);
    }

    private static void rowsTold() {
        part = "promise 15";
        RowGuard x = of(6, LIMIT, 4, STEP, 2, NEAR, 9);
        due("row(6, 0)", x.row(6, 0), -2);
        due("row(-1, 0)", x.row(-1, 0), -2);
        due("row(0, 7)", x.row(0, 7), -2);
        due("row(0, -1)", x.row(0, -1), -2);
        x.swap(3, 5);
        x.ask(2, 2);
        x.tick(2);
        due("PLACE", x.row(3, 0), 5);
        due("DISTURBED", x.row(5, 1), 4);
        due("OPENED", x.row(2, 2), 2);
        due("ever", x.row(2, 3), 2);
        due("FLIPPED", x.row(5, 4), 1);
        due("FLIPPED", x.row(1, 4), 1);
        due("not", x.row(3, 4), 0);
        due("COUNT", x.row(2, 5), 2);
        due("COUNT", x.row(1, 5), 0);
        due("in the QUEUE", x.row(1, 6), 0);
        due("in the QUEUE", x.row(5, 6), 1);
        due("not in it", x.row(2, 6), -1);
        x.ask(1, 1);
        x.drop();
        x.refresh(1);
        due("FLIPPED stays", x.row(1, 4), 1);
        due("OPENED is DISTURBED 0", x.row(2, 1), 0);
        x = of(5, LIMIT, 4, STEP, 99);
        x.ask(2, 4);
        x.tick(4);
        due("DISTURBED 8", x.row(1, 1), 8);
        due("one FLIP of each", x.told(3), 2);
        x.terms(LIMIT, 9);
        x.ask(2, 1);
        x.tick(1);
        due("by a greater LIMIT again", x.told(3), 4);
        due("DATA is as it was", x.data(1, 0), 0);
        x.terms(LIMIT, 1);
        x.ask(4, 1);
        x.tick(1);
        due("had LIMIT by then", x.told(3), 4);
    }

    private static void places() {
        part = "promise 16";
        RowGuard x = of(16);
        due("at(16)", x.at(16), -2);
        due("at(-1)", x.at(-1), -2);
        due("at(15)", x.at(15), 15);
        x.swap(15, 0);
        due("at(15)", x.at(15), 0);
        due("at(0)", x.at(0), 15);
    }

    private static void dataTold() {
        part = "promise 17";
        RowGuard x = of(5, LIMIT, 2, STEP, 99);
        due("data(5, 0)", x.data(5, 0), -2);
        due("data(-1, 0)", x.data(-1, 0), -2);
        due("data(0, 5)", x.data(0, 5), -2);
        due("data(0, -1)", x.data(0, -1), -2);
        x.store(1, 170);
        x.weak(1, 15);
        x.ask(2, 1);
        x.tick(1);
        due("DATA", x.data(1, 0), 165);
        due("GOOD", x.data(1, 1), 170);
        due("WEAK", x.data(1, 2), 15);
        due("bits", x.data(1, 3), 4);
        due("LOST", x.data(1, 4), 0);
        due("the other one", x.data(3, 0), 8);
        x.refresh(1);
        x.ask(2, 1);
        x.tick(1);
        due("FLIPS back", x.data(1, 0), 170);
        due("bits", x.data(1, 3), 0);
    }

    private static void slots() {
        part = "promise 18";
        RowGuard x = of(5, SIZE, 3);
        due("slot(3, 0)", x.slot(3, 0), -2);
        due("slot(-1, 0)", x.slot(-1, 0), -2);
        due("slot(0, 2)", x.slot(0, 2), -2);
        due("slot(0, -1)", x.slot(0, -1), -2);
        due("slot(2, 0)", x.slot(2, 0), -1);
        for (int guard = 1; guard <= 5; guard++) {
            x.terms(GUARD, guard);
            boolean none = guard == 1 || guard == 2 || guard == 5;
            due("slot(0, 1) of GUARD " + guard, x.slot(0, 1), none ? -2 : 0);
            due("slot(2, 0) of GUARD " + guard, x.slot(2, 0), none ? -2 : guard == 4 ? -1 : 0);
            due("slot(3, 1) of GUARD " + guard, x.slot(3, 1), -2);
            due("slot(0, 2) of GUARD " + guard, x.slot(0, 2), -2);
        }
    }

    private static void tables() {
        part = "promise 18, the TABLE";
        RowGuard x = of(8, STEP, 2, QUEUE, 8, LIMIT, 999);
        pattern(x, "aabcca");
        x.tick(2);
        due("slot(0, 0)", x.slot(0, 0), 0);
        due("slot(0, 1)", x.slot(0, 1), 2);
        due("FIRED", x.told(4), 1);
        x.tick(1);
        due("slot(1, 0)", x.slot(1, 0), 1);
        due("slot(1, 1)", x.slot(1, 1), 1);
        x.tick(1);
        due("c is spilled", x.spill(), 1);
        due("row(2, 5)", x.row(2, 5), 0);
        due("nothing FIRES", x.told(4), 1);
        x.tick(1);
        due("c has the slot of COUNT 1", x.slot(1, 0), 2);
        due("SPILL and 1", x.slot(1, 1), 2);
        due("row(1, 5)", x.row(1, 5), 0);
        due("row(2, 5)", x.row(2, 5), 2);
        due("that FIRES", x.told(4), 2);
        x.tick(1);
        due("a has 3", x.row(0, 5), 3);
        due("which doesn't", x.told(4), 2);
        x.drop();
        pattern(x, "dc");
        x.tick(60);
        due("EMPTY at the WINDOW", x.spill(), 0);
        due("slot(0, 0)", x.slot(0, 0), -1);
        due("slot(0, 1)", x.slot(0, 1), 0);
        x = of(8, STEP, 99, QUEUE, 8, LIMIT, 999, EVERY, 99);
        pattern(x, "abcdcc");
        x.tick(6);
        due("lowest slot of two", x.slot(0, 0), 3);
        due("then the other", x.slot(1, 0), 2);
        due("d: SPILL 1 and 1", x.slot(0, 1), 2);
        due("c: SPILL 1 and 1, and one", x.slot(1, 1), 3);
        due("spill()", x.spill(), 1);
    }

    private static void sketches() {
        part = "promise 18, the SKETCH";
        RowGuard x = of(8, GUARD, 3, SIZE, 3, STEP, 2, QUEUE, 8, LIMIT, 999);
        pattern(x, "abde");
        x.tick(2);
        due("b has 1 and 2", x.told(4), 0);
        x.tick(2);
        due("0 and 3 modulo 3", x.slot(0, 0), 2);
        due("1 and 4 modulo 3", x.slot(1, 0), 2);
        due("none", x.slot(2, 0), 0);
        due("1, 4, 10, 13 modulo 3", x.slot(1, 1), 4);
        due("none", x.slot(0, 1), 0);
        due("the lesser", x.row(0, 5), 2);
        due("the lesser", x.row(2, 5), 0);
        due("of a ROW never OPENED", x.row(6, 5), 2);
        due("d and e FIRE by 2", x.told(4), 2);
        x.terms(SIZE, 4);
        pattern(x, "bf");
        x.tick(2);
        due("1 and 5 modulo 4", x.slot(1, 0), 2);
        due("4 and 16 modulo 4", x.slot(0, 1), 2);
        due("row(5, 5)", x.row(5, 5), 2);
        due("row(1, 5)", x.row(1, 5), 2);
        due("told(4)", x.told(4), 3);
        due("spill()", x.spill(), -1);
    }

    private static void latest() {
        part = "promise 18, the LATEST";
        RowGuard x = of(8, GUARD, 4, SIZE, 3, STEP, 3, QUEUE, 8, LIMIT, 999, EVERY, 99);
        pattern(x, "abcad");
        x.tick(3);
        due("slot(0, 0)", x.slot(0, 0), 0);
        due("slot(1, 0)", x.slot(1, 0), 1);
        due("slot(2, 0)", x.slot(2, 0), 2);
        x.tick(1);
        due("a has 2", x.slot(0, 1), 2);
        x.tick(1);
        due("b was seen longest ago", x.slot(1, 0), 3);
        due("COUNT 1", x.slot(1, 1), 1);
        due("row(1, 5)", x.row(1, 5), 0);
        pattern(x, "aea");
        x.tick(1);
        due("a FIRES by 3", x.told(4), 1);
        x.tick(1);
        due("c was seen longest ago", x.slot(2, 0), 4);
        due("row(0, 5)", x.row(0, 5), 3);
        x.drop();
        x.terms(STEP, 1);
        pattern(x, "h");
        x.tick(1);
        due("d was seen longest ago", x.slot(1, 0), 7);
        due("a new one FIRES by STEP 1", x.told(4), 2);
    }

    private static void blocks() {
        part = "GUARD 5";
        RowGuard x = of(5, GUARD, 5, STEP, 2, WINDOW, 10, EVERY, 99, LIMIT, 999);
        pattern(x, "aaabab");
        due("tick(3)", x.tick(3), 3);
        same("b passes a", waiting(x), "aab");
        due("tick(1)", x.tick(1), 2);
        same("both BLOCKED then", waiting(x), "aa");
        due("COUNT", x.row(1, 5), 2);
        x.tick(6);
        due("BLOCKED till the WINDOW", x.count(2), 2);
        due("of none", x.spent(3), 6);
        x.tick(1);
        due("then not", x.count(2), 1);
        due("WAIT", x.told(2), 10);
        due("it never FIRES", x.told(4), 0);
        x = of(5, GUARD, 5, STEP, 1, EVERY, 4, LATE, 8);
        x.ask(0, 2);
        x.tick(5);
        due("BLOCKED ones don't postpone", x.told(6), 1);
        x.terms(GUARD, 1);
        x.terms(STEP, 1);
        due("by others none is BLOCKED", x.tick(1), 0);
    }

    private static void byChance() {
        part = "GUARD 2";
        RowGuard x = of(5, GUARD, 2, CHANCE, 17, QUEUE, 8);
        x.ask(0, 1);
        x.tick(1);
        due("17 isn't below 17", x.told(4), 0);
        due("no COUNT", x.row(0, 5), 0);
        x.terms(CHANCE, 45);
        x.ask(0, 1);
        x.tick(1);
        due("45 isn't below 45", x.told(4), 0);
        x.terms(CHANCE, 84);
        x.ask(0, 1);
        x.tick(1);
        due("421 times 945 and 1663 is 5758 modulo 7875: 58", x.told(4), 1);
        x.terms(CHANCE, 0);
        x.ask(0, 9);
        x.tick(9);
        due("never", x.told(4), 1);
        x.terms(CHANCE, 100);
        x.ask(0, 2);
        x.tick(3);
        due("ever", x.told(4), 3);
    }

    private static void spills() {
        part = "promise 19";
        RowGuard x = of(5, SIZE, 1, STEP, 99);
        pattern(x, "aab");
        x.tick(3);
        due("spill()", x.spill(), 1);
        for (int guard = 1; guard <= 5; guard++) {
            x.terms(GUARD, guard);
            due("spill()", x.spill(), -1);
        }
    }

    private static void queues() {
        part = "promise 20";
        RowGuard x = of(6, STEP, 1, QUEUE, 8, REACH, 2);
        due("queued(0)", x.queued(0), -1);
        due("queued(-1)", x.queued(-1), -3);
        pattern(x, "bda");
        x.tick(1);
        same("queue", inQueue(x), "acd");
        x.tick(1);
        same("those that are in it don't come again", inQueue(x), "acdebf");
        due("queued(6)", x.queued(6), -1);
        due("queued(MAX)", x.queued(Integer.MAX_VALUE), -1);
        due("count(3)", x.count(3), 6);
    }

    private static void knows() {
        part = "KNOWS";
        RowGuard x = of(6, STEP, 1, KNOWS, 0, REACH, 2, QUEUE, 8);
        x.swap(2, 5);
        pattern(x, "cc");
        x.tick(1);
        same("by numbers", inQueue(x), "bdae");
        due("DISTURBED by PLACES", x.row(4, 1), 2);
        due("DISTURBED by PLACES", x.row(3, 1), 1);
        due("not by numbers", x.row(1, 1), 0);
        x = of(6, STEP, 1, REACH, 2, QUEUE, 8);
        x.swap(2, 5);
        pattern(x, "cc");
        x.tick(1);
        same("by PLACES", inQueue(x), "ed");
        x = of(6, STEP, 1, KNOWS, 0, QUEUE, 8);
        pattern(x, "faf");
        x.tick(2);
        same("none beyond", inQueue(x), "eb");
    }

    private static void requests() {
        part = "promise 21";
        RowGuard x = of(5);
        due("request(0)", x.request(0), -1);
        due("request(-1)", x.request(-1), -3);
        x.pair(4, 2, 3);
        due("request(0)", x.request(0), 4);
        due("request(2)", x.request(2), 4);
        due("request(3)", x.request(3), -1);
        x.tick(1);
        due("others go up", x.request(0), 2);
        due("request(2)", x.request(2), -1);
    }

    private static void often() {
        part = "promise 22";
        RowGuard x = of(5, STEP, 99, WINDOW, 10, EVERY, 99);
        due("often(0)", x.often(0), -3);
        due("often(1000)", x.often(1000), -3);
        due("often(999)", x.often(999), 0);
        pattern(x, "aaceee");
        x.tick(6);
        due("often(1)", x.often(1), 21);
        due("often(2)", x.often(2), 17);
        due("often(3)", x.often(3), 16);
        due("often(4)", x.often(4), 0);
        x.tick(5);
        due("in this WINDOW", x.often(1), 0);
    }

    private static void missed() {
        part = "promise 23";
        RowGuard x = of(5, SIZE, 1, STEP, 2, QUEUE, 8);
        pattern(x, "aaabbc");
        x.tick(6);
        due("spill() of b, b, c", x.spill(), 3);
        due("b has none; c was OPENED once", x.missed(), 2);
        x.terms(STEP, 1);
        due("b, c", x.missed(), 6);
        x.terms(GUARD, 1);
        due("EMPTY: all", x.missed(), 7);
        x.ask(0, 1);
        x.tick(1);
        due("a lesser one", x.missed(), 7);
        x.begin(5);
        x.ask(0, 3);
        x.tick(3);
        due("as great a one", x.missed(), 0);
        x.terms(GUARD, 2);
        due("CHANCE has none", x.missed(), 1);
    }

    private static void most() {
        part = "promise 24";
        RowGuard x = of(5, LIMIT, 5, STEP, 99);
        due("most(0)", x.most(0), 0);
        due("most(3)", x.most(3), -2);
        due("most(-1)", x.most(-1), -2);
        due("most(2)", x.most(2), 5);
        x.ask(3, 2);
        x.tick(2);
        due("the lowest of like ones", x.most(0), 2);
        due("most(1)", x.most(1), 4);
        due("most(2)", x.most(2), 1);
        x.ask(3, 1);
        x.tick(1);
        due("most(1)", x.most(1), 6);
        due("it did", x.most(2), 0);
        x.refresh(2);
        x.ask(0, 3);
        x.tick(3);
        due("of ROWS 1 and 4", x.most(0), 1);
        x.refresh(1);
        due("most(0)", x.most(0), 4);
        x.refresh(4);
        due("most(2)", x.most(2), 5);
        x.ask(3, 1);
        x.tick(1);
        x.terms(LIMIT, 1);
        due("or would", x.most(2), 0);
    }

    private static void spent() {
        part = "promise 25";
        RowGuard x = of(5, STEP, 2, TAKES, 3, NEAR, 4, OPENS, 2, EVERY, 15);
        due("spent(-1)", x.spent(-1), -2);
        due("spent(4)", x.spent(4), -2);
        x.ask(2, 2);
        x.tick(20);
        due("of REQUESTS", x.spent(2), 4);
        due("of the QUEUE", x.spent(1), 8);
        due("of REFRESHINGS", x.spent(0), 3);
        due("of none", x.spent(3), 5);
    }

    private static void told() {
        part = "promise 26";
        RowGuard x = of(5, STEP, 2, LIMIT, 4, EVERY, 8, MANY, 2);
        due("told(-1)", x.told(-1), -2);
        due("told(9)", x.told(9), -2);
        x.ask(2, 2);
        x.tick(1);
        x.ask(0, 1);
        x.tick(9);
        due("OPENED", x.told(0), 3);
        due("WAITS 0, 1 and 3", x.told(1), 4);
        due("the greatest", x.told(2), 3);
        due("FLIPS", x.told(3), 2);
        due("FIRED", x.told(4), 1);
        due("from the QUEUE", x.told(5), 2);
        due("by REFRESHINGS", x.told(6), 2);
        due("FIXED", x.told(7), 0);
        due("LOST", x.told(8), 0);
    }

    private static void scrubs() {
        part = "SCRUB";
        RowGuard x = of(5, LIMIT, 2, STEP, 1, SCRUB, 1, EVERY, 8);
        x.ask(1, 1);
        x.tick(3);
        due("by SCRUB 1 not from the QUEUE", x.data(0, 0), 1);
        due("told(5)", x.told(5), 2);
        x.tick(6);
        due("by a REFRESHING", x.data(0, 0), 0);
        due("FIXED", x.told(7), 1);
        x = of(5, LIMIT, 2, STEP, 1, SCRUB, 2, EVERY, 8, MANY, 5);
        x.weak(2, 3);
        x.ask(1, 1);
        x.tick(2);
        due("by SCRUB 2 from the QUEUE", x.data(0, 0), 0);
        due("FIXED", x.told(7), 1);
        x.tick(1);
        due("two bits", x.data(2, 4), 1);
        due("DATA stays", x.data(2, 0), 3);
        due("LOST", x.told(8), 1);
        x.tick(6);
        due("by a REFRESHING, too", x.told(6), 5);
        due("LOST it was", x.told(8), 1);
        due("count(27)", x.count(27), 4);
        x.weak(0, 7);
        x.ask(1, 1);
        x.tick(3);
        due("another one is LOST", x.count(27), 5);
        due("told(8)", x.told(8), 2);
        x.begin(5);
        due("LOST no more", x.count(27), 0);
        x.weak(2, 3);
        x.ask(1, 1);
        x.tick(9);
        due("LOST once", x.told(8), 1);
        x.weak(2, 1);
        x.terms(STEP, 99);
        x.ask(1, 1);
        x.tick(8);
        due("one bit is left", x.told(7), 3);
        due("FIXED", x.data(2, 0), 0);
        due("LOST still", x.data(2, 4), 1);
        x = of(5, LIMIT, 2, STEP, 99, EVERY, 4, MANY, 5);
        x.ask(1, 1);
        x.tick(8);
        due("by SCRUB 0 never", x.data(0, 0), 1);
        due("told(6)", x.told(6), 5);
        x = of(5, LIMIT, 2, STEP, 1, SCRUB, 2, HALF, 1);
        x.ask(1, 1);
        x.tick(2);
        due("SCRUBBED ahead of HALF", x.data(0, 0), 0);
        due("ROW 1 FLIPS by HALF", x.data(1, 0), 2);
        due("told(3)", x.told(3), 3);
    }

    private static void couldAndLeast() {
        part = "promises 27 and 28";
        RowGuard x = of(5);
        due("could()", x.could(), 64);
        due("64 is less than 4 times 17", x.least(), 16);
        x.terms(OPENS, 3);
        due("cut", x.could(), 21);
        due("21 is less than 4 times 6", x.least(), 5);
        x.terms(STEP, 7);
        due("21 isn't less than 7 times 3", x.least(), 3);
        x.terms(STEP, 22);
        due("0", x.least(), 0);
        x.terms(STEP, 21);
        due("1", x.least(), 1);
        x.terms(WINDOW, 999);
        x.terms(OPENS, 1);
        x.terms(STEP, 1);
        due("above 8", x.least(), 999);
        x.terms(WINDOW, 4);
        x.terms(OPENS, 9);
        due("could()", x.could(), 0);
        due("least()", x.least(), 0);
    }

    private static void hammers() {
        part = "promise 29";
        RowGuard x = of(6, STEP, 99, EVERY, 99, LIMIT, 999, WINDOW, 999);
        due("hammer(6, 1, 0)", x.hammer(6, 1, 0), -2);
        due("hammer(-1, 0, 0)", x.hammer(-1, 0, 0), -2);
        due("hammer(0, 0, 2)", x.hammer(0, 0, 2), -2);
        due("hammer(0, 0, -1)", x.hammer(0, 0, -1), -2);
        due("hammer(0, 0, 0)", x.hammer(0, 0, 0), -3);
        due("hammer(0, 100, 1)", x.hammer(0, 100, 1), -3);
        due("two each", x.hammer(3, 7, 0), 14);
        due("from both sides", x.hammer(3, 7, 1), 14);
        due("98, then the STEP", x.hammer(3, 98, 0), 196);
        due("99", x.hammer(3, 99, 0), 198);
        due("at an end one alone", x.hammer(0, 9, 1), 18);
        due("at the other", x.hammer(5, 9, 1), 18);
        due("nothing changes", x.count(2) + x.count(1) + x.told(0), 0);
        x.ask(3, 5);
        x.tick(5);
        due("as it is now, too", x.hammer(0, 1, 0), 10);
        x.ask(3, 48);
        due("those that wait are gone", x.hammer(3, 1, 0), 12);
        x.refresh(2);
        x.refresh(4);
        x.drop();
        x.swap(2, 5);
        due("ROW 4 is beside PLACE 5", x.hammer(2, 3, 1), 6);
        x.ask(4, 3);
        x.tick(3);
        due("one REQUEST of 4 more", x.hammer(2, 1, 1), 8);
        x = of(5, STEP, 2, LIMIT, 999, EVERY, 99);
        due("REFRESHED in between", x.hammer(2, 48, 0), 4);
        x.terms(QUEUE, 3);
        due("not while REQUESTS wait", x.hammer(2, 20, 0), 40);
        x = of(5, STEP, 99, REACH, 2, LIMIT, 999, EVERY, 99);
        x.swap(0, 3);
        due("the lower PLACE first", x.hammer(2, 1, 1), 2);
        x.ask(4, 2);
        x.tick(2);
        due("PLACES 1, 2, 0, 4", x.row(0, 1), 4);
        due("ROW 1 lies at 1, two off ROW 0", x.hammer(2, 1, 1), 5);
        due("then ROW 0 at 3", x.hammer(2, 2, 1), 6);
    }

    private static void breaks() {
        part = "promise 30";
        RowGuard x = of(6, STEP, 99, EVERY, 99, LIMIT, 20, WINDOW, 999);
        due("breaks(6, 0)", x.breaks(6, 0), -2);
        due("breaks(-1, 0)", x.breaks(-1, 0), -2);
        due("breaks(0, 2)", x.breaks(0, 2), -2);
        due("breaks(0, -1)", x.breaks(0, -1), -2);
        due("10 times 2", x.breaks(3, 0), 10);
        x.terms(LIMIT, 1);
        due("1", x.breaks(3, 0), 1);
        x.terms(LIMIT, 20);
        due("both sides", x.breaks(3, 1), 10);
        x.terms(LIMIT, 198);
        due("99", x.breaks(3, 0), 99);
        x.terms(LIMIT, 199);
        due("NONE", x.breaks(3, 0), -1);
        x.terms(LIMIT, 20);
        x.ask(3, 10);
        x.tick(10);
        due("2 and 4 FLIPPED; the 89th FIRES, by ten more they FLIP again", x.breaks(3, 0), 99);
        due("of ROW 1, those beside it", x.breaks(0, 0), 10);
        x.refresh(2);
        due("2 again", x.breaks(3, 0), 10);
        x.terms(STEP, 2);
        due("guarded", x.breaks(3, 0), -1);
    }

    private static void worstAndOrder() {
        part = "promises 31 and 32";
        RowGuard x = of(7);
        due("worst(0)", x.worst(0), -3);
        due("worst(6)", x.worst(6), -3);
        due("worst(1)", x.worst(1), -5);
        due("order(0, 0)", x.order(0, 0), -3);
        due("order(6, 0)", x.order(6, 0), -3);
        due("order(1, -1)", x.order(1, -1), -3);
        due("order(1, 0)", x.order(1, 0), -5);
        due("-5 ahead of NONE", x.order(1, 1), -5);
        x = of(4, STEP, 2);
        due("worst(1)", x.worst(1), 2);
        due("worst(3)", x.worst(3), 6);
        due("a, c, a", x.order(3, 0), 0);
        due("a, c, a", x.order(3, 1), 2);
        due("a, c, a", x.order(3, 2), 0);
        due("order(3, 3)", x.order(3, 3), -1);
        due("order(3, MAX)", x.order(3, Integer.MAX_VALUE), -1);
        x = of(6, STEP, 99);
        due("worst(5)", x.worst(5), 10);
        due("all a", x.order(5, 4), 0);
        x.ask(4, 1);
        x.tick(1);
        due("on top of ROW 3's", x.worst(2), 6);
        due("ROW 2 first", x.order(2, 0), 2);
        due("ROW 2 again", x.order(2, 1), 2);
        x.ask(4, 9);
        x.tick(9);
        due("20 by now and 2", x.worst(1), 22);
        due("by now it is the greatest", x.order(1, 0), 2);
        x.swap(2, 0);
        due("ROW 0 lies there", x.order(1, 0), 0);
        due("6 can't be", x.worst(6), -3);
    }

    private static void fewest() {
        part = "promise 33";
        RowGuard x = of(7);
        due("fewest()", x.fewest(), -5);
        x = of(6, STEP, 99);
        due("LIMIT 24", x.fewest(), -1);
        x.terms(LIMIT, 10);
        due("5", x.fewest(), 5);
        x.terms(LIMIT, 11);
        due("6 are too many", x.fewest(), -1);
        x.terms(LIMIT, 1);
        due("1", x.fewest(), 1);
        x.terms(LIMIT, 6);
        x.ask(4, 2);
        x.tick(2);
        due("on top of 4", x.fewest(), 1);
        x.ask(4, 2);
        x.tick(2);
        due("3 and 5 did by now", x.fewest(), 3);
    }

    private static void sure() {
        part = "promise 34";
        RowGuard x = of(7);
        due("sure(0)", x.sure(0), -3);
        due("sure(5)", x.sure(5), -3);
        due("sure(4)", x.sure(4), -5);
        x = of(4, STEP, 1, LIMIT, 4);
        due("two of one ROW: REFRESHED in between", x.sure(2), 1);
        due("a, c, c: by SIZE 1 c is spilled once", x.sure(3), 2);
        due("a, b, c, c: by SIZE 2 c is spilled once", x.sure(4), 3);
        x.ask(0, 1);
        x.tick(2);
        due("EMPTY: a isn't in its slot", x.sure(2), 1);
        due("SIZE stays", x.count(13), 2);
        due("COUNT stays", x.row(0, 5), 1);
        x.terms(LIMIT, 2);
        due("none by LIMIT 2", x.sure(1), -1);
        x.terms(LIMIT, 999);
        due("any by LIMIT 999", x.sure(4), 1);
        x.begin(6);
        due("six ROWS", x.sure(1), 1);
        x.begin(7);
        due("seven ROWS", x.sure(1), -5);
        x = of(4, STEP, 1, LIMIT, 4);
        x.ask(1, 1);
        x.tick(1);
        x.refresh(0);
        x.terms(LIMIT, 2);
        x.terms(STEP, 2);
        x.ask(1, 1);
        x.tick(3);
        due("FLIPS by now aren't brought", x.told(3) > 0 ? 1 : 0, 1);
        x.terms(LIMIT, 99);
        due("none more", x.sure(1), 1);
    }

    private static void choice() {
        part = "promise 35";
        RowGuard x = of(6, STEP, 99, CHANCE, 0);
        due("choice(-1, 1)", x.choice(-1, 1), -3);
        due("choice(7875, 1)", x.choice(7875, 1), -3);
        due("choice(0, 0)", x.choice(0, 0), -3);
        due("choice(0, 49)", x.choice(0, 49), -3);
        due("no FLIPS, as many TICKS: the lowest", x.choice(0, 9), 0);
        due("choice(7874, 48)", x.choice(7874, 48) >= 0 ? 1 : 0, 1);
        // from 17 the DRAWS 17, 945, 5758 are c, a, d: unguarded b comes to 4 and FLIPS
        x = of(5, STEP, 99, CHANCE, 100, LIMIT, 4);
        due("CHANCE alone FIRES", x.choice(17, 3), 2);
        x.terms(LIMIT, 5);
        due("without FLIPS the fewest TICKS", x.choice(17, 3), 0);
        x = of(5, STEP, 1, CHANCE, 100, LIMIT, 4);
        due("TABLE has d spilled: 6 TICKS, the others 8", x.choice(17, 3), 0);
        x.terms(LIMIT, 5);
        due("BLOCK takes 3 TICKS", x.choice(17, 3), 5);
        x.terms(CHANCE, 0);
        due("CHANCE 3 as well", x.choice(17, 3), 2);
        due("none but BLOCK has 20 wait", x.choice(17, 20), 2);
        x.terms(CHANCE, 100);
        x.terms(LIMIT, 999);
        due("BLOCK has 20 wait, by CHANCE 100 they take long", x.choice(17, 20), choiceByHand(20));
        x.terms(LIMIT, 5);
        x.terms(CHANCE, 0);
        x.terms(LIMIT, 4);
        pattern(x, "ab");
        x.tick(5);
        due("EMPTY, as it was one of them", x.choice(17, 3), 0);
        due("the GUARD stays", x.row(0, 5), 1);
        due("count(12)", x.count(12), 0);
    }

    /** By STEP 1, CHANCE 100, LIMIT 999 from seed 17: the fewest TICKS till REQUESTS and QUEUE are through. */
    private static int choiceByHand(int n) {
        int best = -1;
        int fewest = 501;
        for (int guard = 0; guard < 6; guard++) {
            RowGuard x = of(5, STEP, 1, CHANCE, 100, LIMIT, 999, GUARD, guard);
            int draw = 17;
            for (int i = 0; i < n; i++) {
                x.ask(draw % 5, 1);
                draw = (421 * draw + 1663) % 7875;
            }
            int ticks = 0;
            while (ticks < 500 && x.count(2) + x.count(3) + x.count(5) > 0) {
                x.tick(1);
                ticks++;
            }
            if (ticks < fewest) {
                best = guard;
                fewest = ticks;
            }
        }
        return best;
    }

    private static void attack() {
        part = "promise 36";
        RowGuard x = of(5, STEP, 99, LIMIT, 999, EVERY, 99);
        due("attack(-1)", x.attack(-1), -3);
        due("attack(1)", x.attack(1), -3);
        due("attack(0)", x.attack(0), -31);
        feed(x, "3b2dq");
        due("attack(21)", x.attack(21), -3);
        due("ROW 2 by b, b, b, d, d", x.attack(4), 10);
        due("b, b, b", x.attack(2), 6);
        x.ask(3, 3);
        x.tick(3);
        due("c has 6 and comes to 16 by b, b, b, d, d", x.attack(4), 16);
        due("c has 6 and comes to 12 by b, b, b", x.attack(2), 12);
        x.begin(5);
        due("b, b, b, no ROW", x.attack(5), -31);
        due("no number's end", x.attack(3), -31);
        due("no FAULT is kept", x.fault(0), 0);
        due("THE TAPE stays", x.count(9), 20);
        x.ask(0, 48);
        due("those that wait are gone", x.attack(4), 10);
        due("pattern(2)", x.pattern(2), -4);
        feed(x, "f");
        due("no ROW", x.attack(1), -33);
        x.pattern(0);
        feed(x, "0a");
        due("no number", x.attack(2), -32);
        x.pattern(0);
        feed(x, "((((");
        due("a fourth", x.attack(4), -34);
        x.pattern(0);
        feed(x, "48aa");
        due("49", x.attack(4), -35);
        due("48", x.attack(3), 96);
        due("fault(0) is pattern(0)'s", x.fault(0), 1);
    }

    private static void by() {
        part = "promise 37";
        RowGuard x = of(7);
        due("by(-1, 0)", x.by(-1, 0), -2);
        due("by(6, 0)", x.by(6, 0), -2);
        due("by(0, 0)", x.by(0, 0), -3);
        due("by(5, 6)", x.by(5, 6), -3);
        due("by(5, 5)", x.by(5, 5), -5);
        x.begin(6);
        due("six ROWS", x.by(5, 1), 2);
        x = of(4, STEP, 2, CHANCE, 0);
        due("TABLE", x.by(0, 4), 6);
        due("EACH: a, c, a", x.by(1, 4), 6);
        due("never by CHANCE 0: a, a, a, a", x.by(2, 4), 8);
        due("BLOCK: a, a, c, c", x.by(5, 4), 8);
        due("BLOCK: the fifth opens elsewhere", x.by(5, 5), 8);
        x.terms(STEP, 1);
        due("BLOCK: a, c", x.by(5, 5), 4);
        due("the GUARD stays", x.count(12), 0);
        x.terms(GUARD, 5);
        x.ask(0, 1);
        x.tick(1);
        due("ROW 0 is BLOCKED now", x.worst(1), 4);
        due("EMPTY: not so", x.by(5, 1), 4);
        due("ROW 0 first by that", x.order(1, 0), 2);
    }

    private static void coarse() {
        part = "promise 38";
        RowGuard x = of(5, LIMIT, 999);
        due("coarse(0)", x.coarse(0), -3);
        due("coarse(31)", x.coarse(31), -3);
        due("99", x.coarse(30), 99);
        x = of(5, GUARD, 1, LIMIT, 10, EVERY, 99);
        // by STEP 4 a ROW is REFRESHED at 8; from two sides, each COUNT 1 to 2, 3 and 3 bring 12, so STEP 2
        due("two sides bring 10 by three and two", x.coarse(30), 2);
        due("four REQUESTS bring 8 at most", x.coarse(4), 99);
        x.terms(LIMIT, 6);
        due("by STEP 2 two sides bring 6", x.coarse(30), 1);
        x.terms(LIMIT, 10);
        due("five of one ROW: 10", x.coarse(5), 2);
        x.terms(LIMIT, 2);
        due("NONE", x.coarse(1), -1);
        due("STEP stays", x.count(14), 4);
    }

    private static void small() {
        part = "promise 39";
        RowGuard x = of(5, LIMIT, 999);
        due("small(0)", x.small(0), -3);
        due("small(31)", x.small(31), -3);
        due("1", x.small(30), 1);
        x.terms(LIMIT, 2);
        due("NONE", x.small(1), -1);
        x = of(5, STEP, 1, LIMIT, 6, EVERY, 99);
        // by SIZE 1 c is spilled each time of a, c, a, c, a, c, and d comes to 6; by SIZE 2 all FIRE
        due("five", x.small(5), 1);
        due("six", x.small(6), 2);
        due("thirty", x.small(30), 2);
        due("SIZE stays", x.count(13), 2);
        x.terms(SIZE, 1);
        x.ask(4, 1);
        x.tick(2);
        due("row(4, 5)", x.row(4, 5), 1);
        due("EMPTY: no COUNT of e", x.small(5), 1);
        due("COUNT stays", x.row(4, 5), 1);
    }

    private static void done() {
        part = "promise 40";
        RowGuard x = of(5, STEP, 2, LIMIT, 4, OPENS, 2);
        due("done(-1)", x.done(-1), -2);
        due("done(3)", x.done(3), -2);
        due("done(0)", x.done(0), 0);
        due("done(1)", x.done(1), 0);
        due("done(2)", x.done(2), 0);
        x.ask(2, 3);
        // opened at TIME 0, 2; the QUEUE at 4, 5; opened at 6
        due("TICKS", x.done(0), 7);
        due("FLIPS", x.done(1), 2);
        due("the greatest WAIT", x.done(2), 6);
        x.tick(7);
        due("told(2)", x.told(2), 6);
        x.ask(2, 1);
        due("one under way ahead", x.done(0), 2);
        due("WAIT of this one", x.done(2), 1);
        due("nothing changes", x.count(2), 1);
        x = of(5, GUARD, 5, STEP, 1, WINDOW, 999, LIMIT, 2);
        x.ask(1, 2);
        due("not in 500", x.done(0), -1);
        due("FLIPS by then", x.done(1), 2);
        due("of those that were OPENED", x.done(2), 0);
        x.tick(1);
        due("FLIPS more", x.done(1), 0);
        x.terms(WINDOW, 500);
        due("at TIME 500: the last TICK of 500", x.done(0), 500);
        due("WAIT", x.done(2), 500);
        x.terms(WINDOW, 501);
        due("one too late", x.done(0), -1);
    }

    private static void storm() {
        part = "promise 41";
        RowGuard x = of(5, STEP, 99, LIMIT, 999, EVERY, 99);
        due("storm(-1, 1, 3)", x.storm(-1, 1, 3), -3);
        due("storm(7875, 1, 0)", x.storm(7875, 1, 0), -3);
        due("storm(0, 0, 3)", x.storm(0, 0, 3), -3);
        due("storm(0, 49, 0)", x.storm(0, 49, 0), -3);
        due("storm(0, 1, 3)", x.storm(0, 1, 3), -2);
        due("storm(0, 1, -1)", x.storm(0, 1, -1), -2);
        // 0, 1663, 911 modulo 5 are a, d, b: c has 4
        due("PEAK of a, d", x.storm(0, 2, 0), 2);
        due("PEAK of a, d, b", x.storm(0, 3, 0), 4);
        // 17, 945, 5758 modulo 5 are c, a, d: b has 4, c 2
        due("PEAK of c, a", x.storm(17, 2, 0), 4);
        due("PEAK", x.storm(17, 3, 0), 4);
        due("TICKS", x.storm(17, 3, 1), 3);
        due("FIRES", x.storm(17, 3, 2), 0);
        x.terms(STEP, 1);
        // c has b, d REFRESHED; a has b; d has c, e, unless d is spilled: slots c, a, then SPILL 1
        due("TICKS with the QUEUE's", x.storm(17, 3, 1), 6);
        due("FIRES", x.storm(17, 3, 2), 2);
        x.terms(OPENS, 3);
        x.terms(NEAR, 4);
        due("a and its neighbour", x.storm(0, 1, 1), 7);
        due("c and its two", x.storm(17, 1, 1), 11);
        x.terms(NEAR, 1);
        due("the last of the QUEUE", x.storm(0, 1, 1), 4);
        x.ask(0, 1);
        x.tick(4);
        due("told(4)", x.told(4), 1);
        due("FIRES of this one alone", x.storm(0, 1, 2), 1);
        x.terms(GUARD, 5);
        x.terms(WINDOW, 999);
        due("500 at most", x.storm(17, 48, 1), 500);
        x.begin(5);
        x.terms(OPENS, 1);
        x.terms(GUARD, 2);
        x.terms(CHANCE, 50);
        // behind one DRAW from 17 x is 945, and 45 is below 50; on paper only
        due("goes on with x", x.storm(17, 1, 2), 1);
        x.terms(CHANCE, 45);
        due("goes on with x", x.storm(17, 1, 2), 0);
        x.terms(CHANCE, 18);
        x.ask(0, 1);
        x.tick(1);
        due("x is 17 yet", x.told(4), 1);
    }

    private static void undo() {
        part = "promise 42";
        RowGuard x = new RowGuard();
        due("undo(1)", x.undo(1), -3);
        due("undo(0)", x.undo(0), -3);
        due("undo(11)", x.undo(11), -3);
        x.begin(6);
        x.terms(STEP, 1);
        x.swap(0, 1);
        x.store(2, 99);
        x.weak(2, 255);
        x.ask(2, 2);
        x.pair(2, 3, 2);
        pattern(x, "e");
        x.tick(1);
        x.refresh(1);
        due("ten", x.count(7), 10);
        x.drop();
        due("ten at most", x.count(7), 10);
        due("drop() UNDONE", x.undo(1), 9);
        same("waiting", waiting(x), "ccde".substring(0, 4));
        x.undo(1);
        due("tick() UNDONE", x.undo(1), 7);
        same("waiting", waiting(x), "cccde");
        due("TIME", x.count(1), 0);
        due("pattern() UNDONE", x.undo(1), 6);
        same("waiting", waiting(x), "cccd");
        due("pair(), ask() UNDONE", x.undo(2), 4);
        due("count(2)", x.count(2), 0);
        due("weak(), store() UNDONE", x.undo(2), 2);
        due("WEAK", x.data(2, 2), 4);
        due("DATA", x.data(2, 0), 0);
        due("more than can be", x.undo(3), -3);
        due("swap() UNDONE", x.undo(1), 1);
        due("at(0)", x.at(0), 0);
        due("terms() UNDONE", x.undo(1), 0);
        due("STEP", x.count(14), 4);
        due("begin() is forgotten", x.count(0), 6);
        due("undo(1)", x.undo(1), -3);
        x = new RowGuard();
        x.tick(1);
        x.begin(5);
        due("begin() UNDONE", x.undo(1), 1);
        due("count(0)", x.count(0), 8);
        due("TIME", x.count(1), 1);
        x.ask(9, 1);
        x.terms(0, 0);
        x.feed(0, 0, 0, 0, 0);
        x.pattern(20);
        x.image(0);
        x.tick(0);
        x.swap(1, 1);
        x.refresh(9);
        due("none of these", x.count(7), 1);
        due("undo(1)", x.undo(1), 0);
        due("x too", undoneChance(), 1);
    }

    private static int undoneChance() {
        RowGuard x = of(5, GUARD, 2, CHANCE, 18);
        x.ask(0, 1);
        x.tick(1);
        x.undo(2);
        due("told(4)", x.told(4), 0);
        x.ask(0, 1);
        x.tick(1);
        return x.told(4);
    }

    private static void images() {
        part = "promises 43 and 44";
        RowGuard x = of(5, STEP, 2);
        due("image(-1)", x.image(-1), -2);
        due("image(2)", x.image(2), -2);
        due("restore(-1)", x.restore(-1), -2);
        due("restore(2)", x.restore(2), -2);
        due("restore(1)", x.restore(1), -6);
        x.swap(1, 2);
        x.ask(2, 2);
        x.tick(2);
        due("image(1)", x.image(1), 0);
        due("can be UNDONE yet", x.count(7), 5);
        due("restore(0)", x.restore(0), -6);
        feed(x, "a)");
        x.pattern(2);
        feed(x, "a");
        x.begin(9);
        due("restore(1)", x.restore(1), 0);
        due("count(0)", x.count(0), 5);
        due("at(1)", x.at(1), 2);
        due("TIME", x.count(1), 2);
        due("TERMS", x.count(14), 2);
        due("COUNT", x.row(2, 5), 2);
        same("queue", inQueue(x), "ab");
        due("told(0)", x.told(0), 2);
        due("nothing can be UNDONE", x.count(7), 0);
        due("undo(1)", x.undo(1), -3);
        due("THE TAPE stays", x.count(9), 20);
        due("the FAULT stays", x.fault(1), 1);
        x.tick(1);
        due("undo(1)", x.undo(1), 0);
        x.tick(9);
        due("image(0)", x.image(0), 0);
        x.begin(4);
        due("restore(1) again", x.restore(1), 0);
        due("TIME", x.count(1), 2);
        due("restore(0)", x.restore(0), 0);
        due("TIME", x.count(1), 11);
        due("image(1) is another", x.image(1), 0);
        x.begin(4);
        x.restore(1);
        due("TIME", x.count(1), 11);
    }

    /** All answers that tell how it is, THE TAPE, the FAULT and what can be UNDONE aside. */
    private static String state(RowGuard x) {
        StringBuilder all = new StringBuilder();
        for (int k = 0; k <= 27; k++) {
            all.append(k == 7 || k == 9 ? 0 : x.count(k)).append(' ');
        }
        for (int r = 0; r < 16; r++) {
            for (int what = 0; what <= 6; what++) {
                all.append(x.row(r, what)).append(' ').append(x.data(r, what)).append(' ');
            }
            all.append(x.at(r)).append(' ').append(x.slot(r, 0)).append(' ').append(x.slot(r, 1)).append(' ');
            all.append(x.told(r)).append(' ').append(x.spent(r)).append(' ').append(x.often(r + 1)).append(' ');
        }
        all.append(x.spill()).append(' ').append(x.missed()).append(' ').append(x.most(1)).append(' ');
        all.append(waiting(x)).append(' ').append(inQueue(x)).append(' ').append(x.done(2));
        return all.toString();
    }

    /** What comes of it by some more calls, so that what no call tells is seen, too. */
    private static String future(RowGuard x) {
        StringBuilder all = new StringBuilder(state(x));
        for (int i = 0; i < 12; i++) {
            x.ask(i * 5 % 6, 2);
            x.tick(3);
            all.append(state(x));
        }
        return all.toString();
    }

    private static RowGuard busy(int guard, int turns) {
        RowGuard x = new RowGuard();
        x.begin(6);
        int[][] told = {{LIMIT, 5}, {REACH, 2}, {GUARD, guard}, {SIZE, 3}, {STEP, 2}, {WINDOW, 30}, {OPENS, 2},
            {EVERY, 7}, {TAKES, 3}, {MANY, 2}, {NEAR, 2}, {QUEUE, 2}, {LATE, 2}, {CHANCE, 40}, {KNOWS, 0}, {HALF, 1},
            {SCRUB, 2}};
        for (int[] t : told) {
            x.terms(t[0], t[1]);
        }
        x.weak(1, 7);
        x.weak(3, 200);
        x.swap(1, 4);
        x.store(2, 90);
        for (int i = 0; i < turns; i++) {
            x.ask(i * i % 6, 3);
            x.pair(i % 6, (i + 2) % 6, 3);
            x.tick(5);
        }
        return x;
    }

    private static void upset(RowGuard x) {
        x.begin(16);
        for (int k = 0; k < 17; k++) {
            x.terms(k, RANGE[k][k % 2 == 0 ? 2 : 0]);
        }
        x.pair(1, 9, 20);
        x.swap(2, 13);
        x.store(5, 77);
        x.tick(33);
    }

    private static void allIsBack() {
        part = "promises 42 to 44, all of it";
        for (int guard = 0; guard <= 5; guard++) {
            for (int turns = 1; turns <= 7; turns += 2) {
                String due = future(busy(guard, turns));
                RowGuard x = busy(guard, turns);
                String ahead = state(x);
                x.image(1);
                upset(x);
                due("restore(1)", x.restore(1), 0);
                same("state", state(x), ahead);
                same("what comes of it", future(x), due);
                x = busy(guard, turns);
                x.begin(9);
                x.terms(GUARD, 1);
                x.ask(8, 9);
                x.tick(40);
                due("undo(4)", x.undo(4), 6);
                same("state", state(x), ahead);
                same("what comes of it", future(x), due);
                x = busy(guard, turns);
                x.hammer(1, 9, 0);
                x.breaks(1, 1);
                x.worst(2);
                x.by(4, 2);
                x.fewest();
                x.sure(2);
                x.coarse(3);
                x.small(3);
                x.choice(5, 9);
                x.storm(6, 9, 0);
                same("on paper nothing changes", future(x), due);
                x = busy(guard, turns);
                x.begin(6);
                String anew = future(x);
                x.begin(9);
                x.begin(6);
                same("begin() leaves nothing", future(x), anew);
            }
        }
    }

    private static void sixteenRows() {
        part = "sixteen ROWS";
        RowGuard x = of(16, STEP, 2, LIMIT, 8, REACH, 2, QUEUE, 8);
        x.ask(15, 3);
        x.ask(0, 2);
        x.tick(5);
        due("often(2)", x.often(2), 0x8001);
        due("missed()", x.missed(), 0);
        x.terms(GUARD, 2);
        due("missed()", x.missed(), 0x8001);
        due("most(0)", x.most(0), 14);
        due("PEAK at the end", x.hammer(15, 1, 0), 8);
        due("the one beside it", x.hammer(15, 1, 1), 6);
        due("coarse(1)", x.coarse(1), -1);
        due("small(1)", x.small(1), -1);
        x.begin(16);
        due("coarse(3)", x.coarse(3), 99);
        due("small(3)", x.small(3), 1);
        x.swap(15, 0);
        due("row(15, 0)", x.row(15, 0), 0);
        x.ask(15, 1);
        x.tick(1);
        due("at PLACE 0", x.row(1, 1), 2);
    }

    private static void counts() {
        part = "promise 45";
        RowGuard x = of(6, LIMIT, 2, STEP, 1, SCRUB, 1, EVERY, 4, MANY, 2, TAKES, 3, QUEUE, 8);
        due("count(-1)", x.count(-1), -1);
        due("count(28)", x.count(28), -1);
        due("count(MIN)", x.count(Integer.MIN_VALUE), -1);
        due("count(MAX)", x.count(Integer.MAX_VALUE), -1);
        feed(x, "a");
        x.weak(0, 6);
        x.ask(1, 9);
        x.tick(5);
        due("ROWS", x.count(0), 6);
        due("TIME", x.count(1), 5);
        due("REQUESTS", x.count(2), 5);
        due("in the QUEUE", x.count(3), 2);
        due("OWED", x.count(4), 0);
        due("to go", x.count(5), 2);
        due("next PLACE", x.count(6), 2);
        due("can be UNDONE", x.count(7), 10);
        due("FLIPPED", x.count(8), 5);
        due("THE TAPE", x.count(9), 20);
        due("LOST", x.count(27), 1);
        for (int k = 0; k < 17; k++) {
            due("TERM", x.count(10 + k), k == LIMIT || k == MANY ? 2 : k == STEP || k == SCRUB ? 1
                : k == EVERY ? 4 : k == TAKES ? 3 : k == QUEUE ? 8 : RANGE[k][1]);
        }
    }
}
