/**
 * The promises 1 to 45, one behind the other: each at the bounds that it names, one below and one beyond them; empty
 * and full; each code of a refused call, and which of several comes first. (That a refused call leaves everything as
 * it was, and that UNDONE calls do, too, is held by Script with each step.)
 */
public final class EdgeTest {
    /** No GUARD FIRES, REFRESHINGS are few and wait: so PEAKS are plain sums. */
    private static final String CALM = "terms 2 2; terms 13 0; terms 7 99; terms 12 8; terms 0 999; terms 5 999\n";

    private static int told = 0;

    public static void main(String[] args) {
        newObject();
        begins();
        termsAreTold();
        swaps();
        stores();
        weakBits();
        feeds();
        patterns();
        faults();
        asks();
        pairs();
        drops();
        refreshes();
        ticks();
        rows();
        places();
        data();
        slots();
        spills();
        queues();
        requests();
        often();
        missed();
        most();
        spent();
        tallies();
        could();
        least();
        hammers();
        breaks();
        worst();
        orders();
        fewest();
        sure();
        choices();
        attacks();
        by();
        coarse();
        small();
        done();
        storms();
        undone();
        images();
        restored();
        counts();
        if (told != 45) {
            System.out.println("EdgeTest: a promise is left out, " + told + " were told");
            System.exit(1);
        }
        Script.end("EdgeTest");
    }

    /** Promises come in their order, one or more runs each. */
    private static void promise(int k, String... runs) {
        told += k == told + 1 ? 1 : 1000;
        for (String run : runs) {
            Script.run("promise " + k, run);
        }
    }

    // ---- rows, terms, requests

    private static void newObject() {
        promise(1, """
            count 0 = 8; each count = 8 0 0 0 0 0 0 0 0 0 24 1 0 2 4 64 1 16 1 1 1 1 0 10 1 0 0 0 -1
            each row 0 = 0 1 2 3 4 5 6 7 -2; each row 1 = 0 0 0 0 0 0 0 0 -2; each row 2 = 0 0 0 0 0 0 0 0 -2
            each row 3 = 0 0 0 0 0 0 0 0 -2; each row 4 = 0 0 0 0 0 0 0 0 -2; each row 5 = 0 0 0 0 0 0 0 0 -2
            each row 6 = -1 -1 -1 -1 -1 -1 -1 -1 -2; each at = 0 1 2 3 4 5 6 7 -2
            each data 0 = 0 0 0 0 0 0 0 0 -2; each data 1 = 0 0 0 0 0 0 0 0 -2; each data 3 = 0 0 0 0 0 0 0 0 -2
            each data 2 = 1 2 4 8 16 32 64 128 -2; each data 4 = 0 0 0 0 0 0 0 0 -2
            each told = 0 0 0 0 0 0 0 0 0 -2; each spent = 0 0 0 0 -2; each slot 0 = -1 -1 -2; each slot 1 = 0 0 -2
            spill = 0; queue = -; waiting = -; missed = 0; often 1 = 0; each most = 0 0 24 -2
            each fault = 0 -1 -1; undo 1 = -3; restore 0 = -6; restore 1 = -6; each done = 0 0 0 -2; could = 64; least = 16
            attack 0 = -31; attack 1 = -3; pattern 1 = -3
            """, "terms 2 2; terms 13 17; ask 0 1; tick 1; told 4 = 0", "terms 2 2; terms 13 18; ask 0 1; tick 1; told 4 = 1");
    }

    private static void begins() {
        StringBuilder each = new StringBuilder("begin 6\n");
        for (int n = -1; n <= 18; n++) {
            each.append("begin ").append(n).append(" = ").append(n < 4 || n > 16 ? -3 : n).append("; count 0\n");
        }
        each.append("begin MIN = -3; begin MAX = -3; begin 20 = -3; begin 32 = -3");
        String busy = "begin 6; terms 0 3; terms 1 2; terms 3 1; terms 4 2; terms 5 50; terms 7 5; terms 8 3; terms 9 2; "
            + "terms 10 4; terms 12 2; terms 15 1; terms 16 2; terms 13 90\n"
            + "swap 0 3; store 4 77; weak 4 255; weak 1 255; pattern \"aaababcdde20f\"; tick 35; count 1 = 35\n";
        String anew = """
            begin 5 = 5
            each count = 5 0 0 0 0 0 0 10 0 0 3 2
            count 12; each row 0 = 0 1 2 3 4 -2; each at = 0 1 2 3 4 -2; each row 1 = 0 0 0 0 0; each row 2 = 0 0 0 0 0
            each row 3 = 0 0 0 0 0; each row 4 = 0 0 0 0 0; each row 5 = 0 0 0 0 0; each row 6 = -1 -1 -1 -1 -1
            each data 0 = 0 0 0 0 0; each data 1 = 0 0 0 0 0; each data 2 = 1 2 4 8 16; each data 4 = 0 0 0 0 0
            each told = 0 0 0 0 0 0 0 0 0; each spent = 0 0 0 0; waiting = -; queue = -; count 27 = 0; often 1 = 0
            count 13 = 1; count 14 = 2; count 15 = 50; count 16 = 1; count 17 = 5; count 18 = 3; count 19 = 2; count 20 = 4
            count 21 = 1; count 22 = 2; count 23 = 90; count 24 = 1; count 25 = 1; count 26 = 2
            """;
        promise(2, each.toString(),
            busy + anew + "spill = 0; slot 0 0 = -1; slot 0 1 = 0",
            busy + "terms 2 3; ask 0 4; tick 30\n" + anew + "slot 0 0 = 0; slot 0 1 = 0",
            busy + "terms 2 4; ask 0 4; tick 30\n" + anew + "slot 0 0 = -1; slot 0 1 = 0",
            busy + "terms 2 2; ask 0 4; tick 30\n" + anew + "terms 13 17; ask 0 1; tick 1; told 4 = 0; begin 4\n"
                + "terms 13 18; ask 0 1; tick 1; told 4 = 1",
            busy + "terms 2 5; ask 0 4; tick 30\n" + anew + "ask 0 1; tick 1; told 0 = 1",
            // THE TAPE, the FAULT and the IMAGES are no part of it
            "feed \"a\"; image 0; pattern 0 = -31; feed \"b\"; ask 2 1; image 1; begin 4; count 9 = 20; fault 0 = 1; fault 1 = 0\n"
                + "restore 1; waiting = c; restore 0; waiting = -",
            "begin 4; begin 4; begin 4; count 7 = 3; undo 3 = 0; count 0 = 8");
    }

    private static void termsAreTold() {
        promise(3, """
            terms -1 1 = -2; terms 17 1 = -2; terms MIN 1 = -2; terms MAX 1 = -2; terms 17 -9 = -2; terms -1 -9 = -2
            terms 17 1000 = -2; terms 0 0 = -3; terms 16 3 = -3; terms 16 -1 = -3; terms 16 2 = 0; terms 16 0 = 2; terms 16 0 = 0
            count 7 = 3
            """, """
            terms 2 -1 = -3; terms 2 6 = -3; terms 2 5 = 0; terms 2 0 = 5; terms 3 0 = -3; terms 3 9 = -3; terms 3 8 = 2
            slot 7 0 = -1; slot 8 0 = -2; terms 3 1 = 8; slot 0 0 = -1; slot 1 0 = -2
            """, """
            ask 0 5; terms 6 9; tick 1; count 5 = 8; terms 6 1 = 9; count 5 = 8; tick 8; count 5 = 0; tick 1; count 5 = 0; told 0 = 2
            """, """
            begin 4; terms 4 1; terms 2 1; ask 1 1; tick 1; queue = ac; terms 11 8; terms 1 2; terms 14 0; queue = ac
            terms 2 0; terms 3 1; queue = ac; tick 1; told 5 = 1
            """);
    }

    private static void swaps() {
        promise(4, """
            begin 16; swap 0 15 = 15; swap 15 0 = 15; swap 0 1 = 1; swap 14 15 = 1; swap 0 16 = -2; swap 16 0 = -2; swap -1 0 = -2
            swap 0 -1 = -2; swap 16 16 = -2; swap -1 -1 = -2; swap 0 0 = -3; swap 15 15 = -3; swap MAX MIN = -2; swap MAX 0 = -2
            """, """
            begin 6; swap 0 5 = 5; swap 0 4 = 1; each row 0 = 4 1 2 3 5 0; each at = 5 1 2 3 0 4; swap 5 4 = 5
            each row 0 = 4 1 2 3 0 5; each at = 4 1 2 3 0 5; swap 4 5 = 5; swap 0 4 = 1; swap 0 5 = 5; each row 0 = 0 1 2 3 4 5
            """, CALM + """
            begin 5; store 1 9; weak 1 33; ask 0 2; tick 2; each row 1 = 0 4 0 0 0; swap 1 4 = 3; each row 1 = 0 4 0 0 0
            each row 3 = 2 0 0 0 0; data 1 0 = 9; data 1 2 = 33; each at = 0 4 2 3 1; ask 0 1; tick 1; each row 1 = 0 4 0 0 2
            ask 3 1; tick 1; each row 1 = 0 6 2 0 2
            """, """
            begin 4; terms 2 1; terms 4 1; terms 11 8; ask 1 1; tick 1; queue = ac; swap 0 3 = 3; queue = ac; row 0 6 = 0; row 2 6 = 1
            row 1 5 = 1; ask 1 1; tick 1; queue = acd
            """);
    }

    private static void stores() {
        promise(5, """
            begin 4; store -1 0 = -2; store 4 0 = -2; store 4 256 = -2; store -1 -1 = -2; store MAX 0 = -2; store MIN 256 = -2
            store 0 -1 = -3; store 0 256 = -3; store 0 MIN = -3; store 0 MAX = -3; store 0 0 = 0; store 0 255 = 0; store 0 1 = 255
            store 3 254 = 0; store 3 7 = 254; each data 0 = 1 0 0 7; each data 1 = 1 0 0 7; each data 3 = 0 0 0 0
            """, """
            begin 4; terms 0 2; terms 2 2; terms 13 0; terms 7 4; terms 16 1; weak 0 3; ask 1 1; tick 1; data 0 0 = 3; data 0 3 = 2
            tick 4; data 0 4 = 1; count 27 = 1; told 8 = 1; store 1 0 = 0; count 27 = 1; store 0 0 = 3; data 0 4 = 0; count 27 = 0
            data 0 3 = 0; row 0 4 = 1; told 8 = 1; undo 1; data 0 4 = 1; data 0 0 = 3; store 0 3 = 3; data 0 1 = 3; data 0 4 = 0
            """);
    }

    private static void weakBits() {
        promise(6, """
            begin 4; weak -1 0 = -2; weak 4 0 = -2; weak 4 256 = -2; weak -1 -1 = -2; weak MAX 0 = -2; weak MIN -1 = -2
            weak 0 -1 = -3; weak 0 256 = -3; weak 0 MIN = -3; weak 0 MAX = -3; weak 0 0 = 1; weak 0 255 = 0; weak 0 1 = 255
            weak 3 128 = 8; weak 3 3 = 128; each data 2 = 1 2 4 3; each data 0 = 0 0 0 0
            """, """
            begin 4; terms 0 2; terms 2 2; terms 13 0; weak 0 0; weak 2 255; ask 1 1; tick 1; each data 0 = 0 0 255 0
            each row 4 = 1 0 1 0; told 3 = 2; weak 2 1 = 255; refresh 2; ask 1 1; tick 1; data 2 0 = 254; data 2 3 = 7
            """);
    }

    private static void feeds() {
        promise(7, """
            feed 0 0 0 0 0 = 20; count 9 = 20; feed 0 0 0 0 0 = 40; count 9 = 40; feed 0 0 0 0 0 = 60; count 9 = 60
            feed 0 0 0 0 0 = -4; count 9 = 60; feed -1 MAX MIN 1 2 = -4; count 7 = 0; pattern 0 = -31; count 9 = 0
            feed 0 0 0 0 0 = 20
            """, """
            begin 16; feed 0x61626364 0x65666768 0x696A6B6C 0x6D6E6F70 0x70616F62; pattern 20 = 20; waiting = abcdefghijklmnoppaob
            """, """
            feed 0x61000000 0 0 0 0; feed 0x62000000 0 0 0 0; feed 0x00636465 0 0 0 0; attack 1 = 2; attack 2 = -31
            pattern 60 = -31; fault 1 = 1
            """, """
            feed 0xE1FF8061 0x61616180 0 0 0; pattern 1 = -31; fault 1 = 0
            feed 0x6161E161 0 0 0 0; pattern 4 = -31; fault 1 = 2; feed MIN MAX -1 0 0; pattern 4 = -31; fault 1 = 0
            """, "feed \"a\"; ask 0 1; undo 1; count 9 = 20; begin 4; count 9 = 20; feed \"b\" = 40; image 0; restore 0; count 9 = 40");
    }

    private static void patterns() {
        promise(8, """
            pattern -1 = -3; pattern 1 = -3; pattern MIN = -3; pattern MAX = -3; pattern 0 = -31
            feed "abc"; pattern -1 = -3; pattern 21 = -3; count 9 = 20; pattern 20 = -31; fault 1 = 3; count 9 = 0; pattern 1 = -3
            feed "abc"; pattern 0 = -31; count 9 = 0; fault 0 = 1; fault 1 = 0
            feed "abc"; pattern 1 = 1; count 9 = 0; feed "abc"; pattern 3 = 4; waiting = aabc; pattern "2(c)" = 6; waiting = aabccc
            """, "feed \"" + "a".repeat(20) + "\"; pattern 20 = 20; feed \"" + "a".repeat(20) + "\"; pattern 21 = -3; pattern 19 = 39\n"
                + "feed \"" + "a".repeat(20) + "\"; pattern 10 = -4; feed \"" + "b".repeat(20) + "\"; pattern 9 = 48; request 47 = 1; request 38 = 0",
            """
            ask 0 47; pattern "aa" = -4; count 9 = 0; fault 0 = 0; fault 1 = -1; pattern "2)" = -31; fault 1 = 1; pattern "b" = 48
            pattern "b" = -4; fault 0 = 0; pattern "49b" = -32; fault 0 = 2; pattern "48bb" = -35; fault 0 = 5; fault 1 = -1
            drop; pattern "47bb" = 48; count 7 = 4
            """, "ask 1 1; tick 3; pattern \"2a\" = 2; tick 5; told 1 = 1; told 2 = 1",
            "pattern \"i\" = -33; begin 9; pattern \"i\" = 1; pattern \"((((\" = -34; pattern \"ab1\" = -31; waiting = i");
    }

    private static void faults() {
        promise(9, """
            each fault = 0 -1 -1 -1; fault -1 = -1; fault MIN = -1; fault MAX = -1
            pattern "a3" = -31; each fault = 1 2 -1; fault -1 = -1; fault 2 = -1
            pattern 1 = -3; fault 0 = 1; fault 1 = 2; pattern -1 = -3; fault 0 = 1; fault 1 = 2
            feed "b0"; attack 2 = -32; fault 1 = 2; attack 1 = 2; fault 0 = 1; pattern 21 = -3; fault 1 = 2; pattern 2 = -32
            feed "a0b"; pattern 3 = -32; fault 0 = 2; fault 1 = 1; feed "aap"; pattern 3 = -33; fault 0 = 3; fault 1 = 2
            feed "((( (("; pattern 6 = -31; fault 1 = 3; feed "((((("; pattern 5 = -34; fault 0 = 4; fault 1 = 3
            feed "48aa"; pattern 4 = -35; fault 0 = 5; fault 1 = -1; pattern 0 = -31; fault 0 = 1; fault 1 = 0
            feed "a"; pattern 1 = 1; fault 0 = 0; fault 1 = -1
            """, """
            pattern "(a" = -31; ask 0 48; fault 1 = 2; feed "a"; pattern 1 = -4; fault 0 = 0; fault 1 = -1
            pattern "(a" = -31; undo 1; fault 1 = 2; begin 4; fault 1 = 2; image 0; restore 0; fault 0 = 1; fault 1 = 2
            """);
    }

    private static void asks() {
        promise(10, """
            begin 4; ask -1 1 = -2; ask 4 1 = -2; ask 4 0 = -2; ask 4 49 = -2; ask MIN 1 = -2; ask MAX 1 = -2; ask 0 0 = -3
            ask 0 49 = -3; ask 0 -1 = -3; ask 0 MIN = -3; ask 0 MAX = -3; ask 0 1 = 1; ask 3 46 = 47; ask 1 2 = -4; ask 1 1 = 48
            ask 1 1 = -4; ask 1 48 = -4; ask 1 49 = -3; ask 1 0 = -3; ask 4 48 = -2; request 0 = 0; request 46 = 3; request 47 = 1
            """, "begin 4; ask 0 48 = 48; ask 0 1 = -4; tick 1 = 47; ask 1 2 = -4; ask 1 1 = 48; count 7 = 4",
            "begin 16; ask 15 1 = 1; ask 16 1 = -2");
    }

    private static void pairs() {
        promise(11, """
            begin 4; pair -1 0 1 = -2; pair 0 -1 1 = -2; pair 4 0 1 = -2; pair 0 4 1 = -2; pair 4 4 1 = -2; pair 4 4 0 = -2
            pair MAX MIN 49 = -2; pair 0 1 0 = -3; pair 0 1 49 = -3; pair 0 1 -1 = -3; pair 0 1 MAX = -3; pair 0 1 MIN = -3
            pair 2 2 1 = -3; pair 2 2 0 = -3; pair 0 3 1 = 1; pair 3 0 2 = 3; pair 0 3 3 = 6; waiting = adaada
            """,
            """
            begin 4; pair 0 1 48 = 48; request 46 = 0; request 47 = 1; pair 0 1 1 = -4; pair 2 2 1 = -3; pair 0 1 49 = -3; pair 4 0 1 = -2
            tick 1 = 47; pair 2 3 2 = -4; pair 2 3 1 = 48; request 47 = 2
            """, "begin 4; pair 1 2 47 = 47; request 46 = 1; pair 3 0 1 = 48; request 47 = 3");
    }

    private static void drops() {
        promise(12, """
            begin 4; drop = 0; drop = 0; count 7 = 3; ask 0 1; drop = 1; waiting = -; ask 0 48; tick 1; drop = 47; count 2 = 0
            told 0 = 1; told 1 = 0; undo 1; count 2 = 47; drop = 47; tick 9; told 0 = 1
            """, """
            begin 4; terms 4 1; terms 2 1; terms 6 3; ask 1 9; tick 1; drop = 8; count 5 = 2; queue = ac; tick 3; told 5 = 1
            """);
    }

    private static void refreshes() {
        promise(13, "begin 4; " + CALM + """
            refresh -1 = -2; refresh 4 = -2; refresh MIN = -2; refresh MAX = -2; refresh 0 = 0; refresh 3 = 0
            pair 1 2 2; tick 2; each row 1 = 2 2 0 2; refresh 0 = 2; refresh 0 = 0; refresh 3 = 2; refresh 2 = 0
            each row 1 = 0 2 0 0; told 5 = 0; told 6 = 0; count 1 = 2; each spent = 0 0 2 0
            """, """
            begin 4; terms 2 1; terms 4 1; terms 15 1; terms 16 2; terms 0 2; terms 11 8; ask 1 1; tick 1; queue = ac
            refresh 0 = 2; each row 1 = 0 0 2 0; queue = ac; each data 0 = 1 0 4 0; told 7 = 0; row 0 4 = 1; count 6 = 0
            tick 1; told 5 = 1; told 7 = 1; each data 0 = 0 2 4 0
            """);
    }

    private static void ticks() {
        promise(14, """
            begin 4; tick 0 = -3; tick -1 = -3; tick 201 = -3; tick MIN = -3; tick MAX = -3; count 1 = 0; tick 1 = 0; count 1 = 1
            tick 200 = 0; count 1 = 201; tick 199 = 0; count 1 = 400; count 7 = 4
            """, "begin 4; " + CALM + """
            ask 0 48; tick 1 = 47; tick 46 = 1; tick 1 = 0; tick 1 = 0; count 1 = 49; undo 1; tick 1 = 0
            """, "begin 5; ask 2 2; tick 1; each row 1 = 0 2 0 2 0; told 0 = 1; tick 199; each row 1 = 0 0 0 0 0; told 6 = 12");
    }

    // ---- how it is

    private static void rows() {
        promise(15, """
            begin 4; row -1 0 = -2; row 4 0 = -2; row 0 -1 = -2; row 0 7 = -2; row 4 7 = -2; row MIN 0 = -2; row MAX 0 = -2
            row 0 MIN = -2; row 0 MAX = -2; row 3 6 = -1; row 3 0 = 3; row 0 0 = 0
            """, """
            begin 6; terms 0 4; terms 4 2; terms 11 8; terms 5 20; terms 7 99; swap 0 5; ask 2 3; tick 2
            each row 0 = 5 1 2 3 4 0; each row 1 = 0 4 0 4 0 0; each row 2 = 0 0 2 0 0 0; each row 3 = 0 0 2 0 0 0
            each row 4 = 0 1 0 1 0 0; each row 5 = 0 0 2 0 0 0; each row 6 = -1 0 -1 1 -1 -1
            tick 18; each row 2 = 0 0 3 0 0 0; row 2 5 = 3; tick 1; each row 2 = 0 0 0 0 0 0; each row 3 = 0 0 3 0 0 0; row 2 5 = 0
            each row 4 = 0 1 0 1 0 0; each row 6 = -1 -1 -1 -1 -1 -1; each row 1 = 0 0 0 0 0 0
            """, """
            begin 4; terms 2 2; ask 1 1; tick 1; row 1 5 = 0; terms 2 3; terms 3 2; ask 1 2; tick 2; each row 5 = 0 2 0 2
            terms 2 5; terms 4 99; ask 1 2; tick 2; each row 5 = 0 2 0 0
            """);
    }

    private static void places() {
        promise(16, """
            at -1 = -2; at 8 = -2; at MIN = -2; at MAX = -2; at 0 = 0; at 7 = 7; swap 0 7; at 0 = 7; at 7 = 0; swap 7 3; at 0 = 3; at 3 = 7
            begin 4; at 3 = 3; at 4 = -2; begin 16; at 15 = 15; at 16 = -2
            """);
    }

    private static void data() {
        promise(17, """
            begin 4; data -1 0 = -2; data 4 0 = -2; data 0 -1 = -2; data 0 5 = -2; data 4 5 = -2; data MIN 0 = -2; data MAX 4 = -2
            data 0 MIN = -2; data 0 MAX = -2; data 3 4 = 0
            """, """
            begin 4; terms 0 2; terms 2 2; terms 13 0; terms 7 4; terms 9 4; terms 16 1; store 0 240; weak 0 255; weak 2 1
            ask 1 1; tick 1; each data 0 = 15 0 1 0; each data 1 = 240 0 0 0; each data 2 = 255 2 1 8; each data 3 = 8 0 1 0
            each data 4 = 0 0 0 0; tick 4; each data 0 = 15 0 0 0; each data 3 = 8 0 0 0; each data 4 = 1 0 0 0; told 7 = 1; told 8 = 1
            """);
    }

    private static void slots() {
        StringBuilder sizes = new StringBuilder("begin 4\n");
        for (int size = 1; size <= 8; size++) {
            sizes.append("terms 3 ").append(size).append("; slot ").append(size - 1).append(" 0 = -1; slot ").append(size - 1)
                .append(" 1 = 0; slot ").append(size).append(" 0 = -2; slot ").append(size).append(" 1 = -2\n");
        }
        promise(18, sizes.toString(), """
            slot -1 0 = -2; slot 2 0 = -2; slot 0 -1 = -2; slot 0 2 = -2; slot 2 2 = -2; slot MIN 0 = -2; slot MAX 1 = -2; slot 0 MAX = -2
            slot 0 MIN = -2; slot 1 1 = 0
            terms 2 4; slot -1 0 = -2; slot 2 0 = -2; slot 0 -1 = -2; slot 0 2 = -2; slot 1 0 = -1; slot 1 1 = 0
            terms 2 3; slot -1 0 = -2; slot 2 0 = -2; slot 0 -1 = -2; slot 0 2 = -2; slot 1 0 = 0; slot 1 1 = 0; slot 7 0 = -2
            terms 2 1; slot 0 0 = -2; slot 0 1 = -2; slot 1 1 = -2; terms 2 2; slot 0 0 = -2; slot 0 1 = -2
            terms 2 5; slot 0 0 = -2; slot 0 1 = -2; slot 0 2 = -2
            """, """
            begin 4; terms 3 3; terms 4 99; pattern "bbd"; tick 2; each slot 0 = 1 -1 -1 -2; each slot 1 = 2 0 0 -2; tick 1
            each slot 0 = 1 3 -1 -2; each slot 1 = 2 1 0 -2
            terms 2 4; pattern "dab"; tick 3; each slot 0 = 3 0 1 -2; each slot 1 = 1 1 1 -2
            terms 2 3; pattern "dac"; tick 3; each slot 0 = 2 0 1 -2; each slot 1 = 0 3 0 -2
            """);
    }

    private static void spills() {
        promise(19, """
            begin 4; spill = 0; terms 3 1; terms 4 99; pattern "ab"; tick 1; spill = 0; tick 1; spill = 1; terms 2 1; spill = -1
            terms 2 2; spill = -1; terms 2 3; spill = -1; terms 2 4; spill = -1; terms 2 5; spill = -1; terms 2 0; spill = 0
            """);
    }

    private static void queues() {
        promise(20, """
            begin 4; queued 0 = -1; queued -1 = -3; queued MIN = -3; queued MAX = -1
            terms 2 1; terms 4 1; terms 11 8; ask 1 1; tick 1; queued 0 = 0; queued 1 = 2; queued 2 = -1; queued -1 = -3; queued MAX = -1
            tick 1; queued 0 = 2; queued 1 = -1; tick 1; queued 0 = -1; queued -1 = -3
            """);
    }

    private static void requests() {
        promise(21, """
            begin 4; request 0 = -1; request -1 = -3; request MIN = -3; request MAX = -1
            pair 3 1 48; request 0 = 3; request 1 = 1; request 47 = 1; request 48 = -1; request -1 = -3; tick 1; request 0 = 1
            request 46 = 1; request 47 = -1; drop; request 0 = -1
            """);
    }

    private static void often() {
        StringBuilder many = new StringBuilder("begin 4; " + CALM);
        for (int i = 0; i < 18; i++) {
            many.append("ask 2 48; tick 48\n");
        }
        // at TIME 891 and 990 a ninth REFRESHING is OWED; by WINDOW 998 this WINDOW goes on beyond 999
        many.append("ask 2 48; tick 49; ask 2 48; tick 48; ask 2 40; tick 38; count 1 = 999; told 6 = 2; row 2 2 = 997\n");
        many.append("often 997 = 4; often 998 = 0; often 999 = 0; terms 5 998; tick 1; often 998 = 4; often 999 = 0\n");
        many.append("tick 1; row 2 2 = 999; often 999 = 4; often 1000 = -3; often 1 = 4");
        promise(22, """
            often 0 = -3; often -1 = -3; often 1000 = -3; often MIN = -3; often MAX = -3; often 1 = 0; often 999 = 0
            """, "begin 16; " + CALM + """
            pattern "ppaappaok"; tick 9; often 1 = 50177; often 2 = 32769; often 3 = 32769; often 4 = 32768; often 5 = 0
            """, many.toString());
    }

    private static void missed() {
        promise(23, "begin 4; terms 3 1; terms 4 3; terms 11 8; terms 7 99\n" + """
            missed = 0; pattern "bbb"; tick 2; missed = 0; tick 1; missed = 0; row 1 2 = 3; row 1 5 = 3
            pattern "dd"; tick 2; missed = 0; terms 4 2; missed = 8; terms 4 3; pattern "d"; tick 1; missed = 8; row 3 5 = 0; spill = 3
            pattern "d"; tick 1; row 3 5 = 4; row 3 2 = 4; missed = 2; row 1 5 = 0; row 1 2 = 3
            """,
            """
            begin 4; terms 2 1; terms 4 1; terms 11 8; terms 7 99; terms 5 10; ask 0 2; tick 2; missed = 0; terms 2 1; missed = 1; ask 0 1; tick 1
            missed = 1; row 0 5 = 1; row 0 2 = 3; tick 7; missed = 1; tick 1; missed = 0
            """, """
            begin 5; terms 2 3; terms 3 2; terms 4 2; terms 11 8; pattern "acca"; tick 4; each row 5 = 4 0 4 0 4; missed = 0; terms 2 2
            missed = 5; terms 4 3; missed = 0
            """, """
            begin 5; terms 2 4; terms 3 1; terms 4 2; terms 11 8; terms 7 99; pattern "aab"; tick 2; missed = 0; tick 1; missed = 1
            terms 2 5; missed = 1; terms 4 1; missed = 3
            """);
    }

    private static void most() {
        promise(24, "begin 5; " + CALM + """
            terms 0 4; each most = 0 0 4 -2; most -1 = -2; most MIN = -2; most MAX = -2
            ask 4 1; tick 1; each most = 3 2 2 -2; ask 0 1; tick 1; each most = 1 2 2; terms 0 3; most 2 = 1; terms 0 2; most 2 = 0
            terms 0 1; most 2 = 0; terms 0 4; ask 4 1; tick 1; each most = 3 4 0; terms 0 5; most 2 = 1; terms 0 999; most 2 = 995
            refresh 3; each most = 1 2 997
            """, "begin 16; " + CALM + "ask 14 1; tick 1; refresh 13; each most = 15 2 997; swap 15 0; each most = 15 2 997");
    }

    private static void spent() {
        promise(25, """
            begin 4; spent -1 = -2; spent 4 = -2; spent MIN = -2; spent MAX = -2; tick 5; each spent = 0 0 0 5 -2
            terms 7 20; terms 8 9; terms 10 9; terms 6 9; terms 4 1; terms 2 1; ask 0 1; tick 9; each spent = 0 0 9 5; count 5 = 0
            tick 1; each spent = 0 1 9 5; count 5 = 8; tick 8; each spent = 0 9 9 5; tick 9; each spent = 9 9 9 5; tick 1
            each spent = 9 9 9 6; count 1 = 33
            """);
    }

    private static void tallies() {
        promise(26, """
            begin 4; told -1 = -2; told 9 = -2; told MIN = -2; told MAX = -2; each told = 0 0 0 0 0 0 0 0 0 -2
            terms 0 2; terms 2 1; terms 4 2; terms 16 2; terms 7 10; terms 9 4; weak 0 3; ask 1 2; tick 2
            each told = 2 1 1 2 1 0 0 0 0; tick 1; each told = 2 1 1 2 1 1 0 0 1; tick 1; each told = 2 1 1 2 1 2 0 1 1
            tick 6; each told = 2 1 1 2 1 2 0 1 1; tick 1; each told = 2 1 1 2 1 2 4 1 1; begin 4; each told = 0 0 0 0 0 0 0 0 0
            """);
    }

    // ---- on paper

    private static void could() {
        promise(27, """
            could = 64; terms 6 9; could = 7; terms 5 63; could = 7; terms 5 62; could = 6; terms 5 9; could = 1; terms 5 8; could = 0
            terms 5 4; could = 0; terms 6 4; could = 1; terms 6 5; could = 0; terms 6 1; could = 4; terms 5 999; could = 999
            terms 6 2; could = 499
            """);
    }

    private static void least() {
        promise(28, """
            terms 5 63; least = 15; terms 5 64; least = 16; terms 5 65; least = 16; terms 5 67; least = 16; terms 5 68; least = 17
            terms 5 4; least = 1; terms 4 5; least = 0; terms 4 3; least = 1; terms 4 2; least = 2; terms 4 1; least = 4
            terms 5 999; least = 999; terms 4 99; least = 10; terms 5 98; least = 0; terms 5 99; least = 1; terms 6 9; least = 0
            """,
            // by SIZE 3 SPILL comes to 2 with 8 REQUESTS, not with 7
            "begin 4; terms 3 3; terms 4 2; terms 5 8; least = 4; terms 5 7; least = 3; terms 5 64; terms 11 8; terms 7 99\n"
                + "pattern \"abcdabcd\"; tick 7; spill = 1; tick 1; spill = 2; begin 5; pattern \"abcdabce\"; tick 7; spill = 1; tick 1; spill = 2",
            "begin 5; terms 3 1; terms 4 2; terms 5 4; least = 2; terms 5 64; terms 11 8; pattern \"abbc\"; tick 4; spill = 2");
    }

    private static void hammers() {
        promise(29, "begin 4; " + CALM + """
            hammer -1 1 0 = -2; hammer 4 1 0 = -2; hammer 0 1 -1 = -2; hammer 0 1 2 = -2; hammer 0 0 0 = -3; hammer 0 100 0 = -3
            hammer 0 -1 1 = -3; hammer 4 0 0 = -2; hammer 0 100 2 = -2; hammer 0 0 -1 = -2; hammer MAX MIN 0 = -2; hammer 0 MIN 0 = -3
            hammer 0 MAX 1 = -3; hammer 0 1 MAX = -2; hammer 0 1 0 = 2; hammer 0 2 0 = 4; hammer 0 48 0 = 96; hammer 0 49 0 = 98
            hammer 0 98 0 = 196; hammer 0 99 0 = 198; hammer 3 99 0 = 198; hammer 0 99 1 = 198; hammer 3 99 1 = 198
            hammer 1 1 1 = 2; hammer 1 2 1 = 4; hammer 1 99 1 = 198; hammer 3 1 1 = 2
            """, "begin 6; " + CALM + """
            ask 0 2; tick 2; each row 1 = 0 4 0 0 0 0; hammer 3 1 1 = 6; hammer 3 2 1 = 6; hammer 1 1 1 = 6; hammer 3 5 1 = 10
            hammer 1 2 1 = 8; hammer 0 1 1 = 4; hammer 0 2 1 = 4; hammer 0 3 1 = 6; hammer 5 1 1 = 4; hammer 4 4 1 = 8
            """, "begin 6; " + CALM + """
            swap 1 4; ask 0 1; tick 1; each row 1 = 0 0 0 0 2 0; hammer 4 1 0 = 2; hammer 4 1 1 = 4; hammer 0 1 1 = 2; hammer 0 3 1 = 6
            ask 5 40; hammer 4 1 1 = 4; terms 4 1; hammer 4 2 1 = 6; terms 2 1; hammer 4 9 1 = 4
            """);
    }

    private static void breaks() {
        promise(30, "begin 4; " + CALM + """
            breaks -1 0 = -2; breaks 4 0 = -2; breaks 0 -1 = -2; breaks 0 2 = -2; breaks MAX MIN = -2; breaks MIN 0 = -2; breaks 0 MAX = -2
            breaks 0 0 = -1; terms 0 199; breaks 0 0 = -1; breaks 1 1 = -1; terms 0 198; breaks 0 0 = 99; breaks 1 1 = 99; breaks 3 1 = 99
            terms 0 197; breaks 0 0 = 99; terms 0 196; breaks 0 0 = 98; terms 0 3; breaks 0 0 = 2; terms 0 2; breaks 0 0 = 1
            terms 0 1; breaks 0 0 = 1; breaks 0 1 = 1
            """, "begin 5; " + CALM + """
            terms 0 6; ask 1 3; tick 3; told 3 = 2; breaks 1 0 = -1; breaks 1 1 = 3; refresh 0; breaks 1 0 = 3; refresh 2; breaks 1 0 = 3
            terms 0 7; breaks 1 0 = 4; terms 2 1; terms 4 3; breaks 1 0 = -1; terms 4 4; breaks 1 0 = 4
            """,
            // what is in the QUEUE has a ROW FLIP without any REQUEST: the fewest that are tried is 1
            "begin 5; terms 2 1; terms 4 1; terms 15 1; terms 0 4; ask 2 1; tick 1; queue = bd; told 3 = 0; breaks 0 0 = 1; breaks 4 1 = 1");
    }

    private static void worst() {
        promise(31, "begin 7; " + CALM + """
            worst 0 = -3; worst 6 = -3; worst 1 = -5; worst 5 = -5; worst -1 = -3; worst MIN = -3; worst MAX = -3
            begin 16; worst 0 = -3; worst 6 = -3; worst 5 = -5; begin 4; worst 0 = -3; worst 6 = -3; worst 1 = 2; worst 5 = 10
            begin 6; worst 1 = 2; worst 2 = 4; worst 3 = 6; worst 4 = 8; worst 5 = 10; terms 1 2; worst 1 = 2; worst 5 = 10
            ask 5 2; tick 2; worst 1 = 6; worst 2 = 8; worst 5 = 14
            """, """
            begin 4; terms 2 1; terms 4 1; worst 1 = 2; worst 2 = 2; worst 3 = 2; worst 5 = 2; terms 4 2; worst 3 = 6; terms 2 5; worst 5 = 8
            terms 2 4; worst 4; terms 2 3; worst 4; terms 2 0; worst 4; terms 15 1; worst 4; terms 11 3; worst 4
            """);
    }

    private static void orders() {
        promise(32, "begin 7; " + CALM + """
            order 0 0 = -3; order 6 0 = -3; order 1 -1 = -3; order 0 -1 = -3; order 1 0 = -5; order 5 4 = -5; order 1 1 = -5; order 5 5 = -5
            order MIN 0 = -3; order MAX 0 = -3; order 1 MIN = -3; order 1 MAX = -5
            begin 6; order 0 0 = -3; order 6 0 = -3; order 5 -1 = -3; order 1 0 = 0; order 1 1 = -1; order 1 MAX = -1; order 5 0 = 0
            order 5 4 = 0; order 5 5 = -1; order 5 6 = -1
            ask 5 1; tick 1; each row 1 = 0 0 0 0 2 0; order 1 0 = 3; order 2 0 = 3; order 2 1 = 3; order 2 2 = -1
            swap 3 0; order 1 0 = 0; swap 5 0; order 1 0 = 0; swap 0 1; order 1 0 = 1; refresh 4; order 1 0 = 0
            """, """
            begin 4; terms 2 1; terms 4 2; order 3 0 = 0; order 3 1 = 2; order 3 2 = 0; order 3 3 = -1
            ask 1 20; order 3 1 = 2; tick 1; order 2 0 = 3; order 2 1 = 1; order 4 0; order 4 1; order 4 2; order 4 3
            """);
    }

    private static void fewest() {
        promise(33, "begin 7; " + CALM + """
            fewest = -5; begin 16; fewest = -5; begin 6; fewest = -1; terms 0 11; fewest = -1; terms 0 10; fewest = 5; terms 0 9; fewest = 5
            terms 0 8; fewest = 4; terms 0 3; fewest = 2; terms 0 2; fewest = 1; terms 0 1; fewest = 1
            terms 0 12; ask 5 1; tick 1; fewest = 5; terms 0 13; fewest = -1; terms 0 2; fewest = 1; ask 1 40; fewest = 1
            """, "begin 4; " + CALM + """
            terms 0 2; pair 1 2 2; tick 2; each row 1 = 2 2 0 2; told 3 = 4; fewest = 1; ask 1 1; tick 1; each row 1 = 4 0 2 2
            fewest = 1; refresh 1; ask 2 1; tick 1; ask 1 1; tick 1; terms 0 999; fewest = -1
            """,
            // but by what is in the QUEUE
            "begin 5; terms 2 1; terms 4 1; terms 15 1; terms 0 4; ask 2 1; tick 1; queue = bd; told 3 = 0; fewest = 1",
            // ROW 0, the first of all, beside the ROW at PLACE 0
            "begin 4; " + CALM + "terms 0 4; swap 0 1; ask 0 1; tick 1; refresh 2; each row 1 = 0 2 0 0; fewest = 1; refresh 1; fewest = 2",
            // the last ROW, the last of all, beside the ROW at the last PLACE
            "begin 4; " + CALM + "terms 0 4; swap 3 2; ask 3 1; tick 1; refresh 1; each row 1 = 0 0 2 0; fewest = 1; refresh 2; fewest = 2");
    }

    private static void sure() {
        promise(34, "begin 7; " + CALM + """
            sure 0 = -3; sure 5 = -3; sure 1 = -5; sure 4 = -5; sure -1 = -3; sure MIN = -3; sure MAX = -3; begin 16; sure 4 = -5; sure 5 = -3
            begin 6; sure 0 = -3; sure 5 = -3; sure 1 = 1; sure 4 = 1; terms 0 9; sure 4 = 1; terms 0 8; sure 4 = -1; sure 3 = 1
            terms 0 2; sure 1 = -1; terms 0 3; sure 1 = 1; sure 2 = -1
            """, """
            begin 4; terms 4 1; terms 0 4; sure 1 = 1; sure 2 = 1; sure 3 = 2; sure 4 = 3; terms 3 8; sure 4 = 3; count 13 = 8
            ask 0 1; tick 2; sure 3 = 2; terms 2 1; sure 4 = 1; terms 2 3; sure 4; terms 2 4; sure 4; terms 2 5; sure 4
            """, "begin 4; " + CALM + "terms 0 4; swap 0 1; ask 0 1; tick 1; refresh 2; sure 1 = -1; refresh 1; sure 1 = 1; sure 2 = -1",
            "begin 4; " + CALM + "terms 0 4; swap 3 2; ask 3 1; tick 1; refresh 1; sure 1 = -1; refresh 2; sure 1 = 1; sure 2 = -1");
    }

    private static void choices() {
        promise(35, "begin 4; " + CALM + """
            choice -1 1 = -3; choice 7875 1 = -3; choice 0 0 = -3; choice 0 49 = -3; choice MIN 1 = -3; choice MAX 1 = -3; choice 0 MIN = -3
            choice 0 MAX = -3; choice -1 0 = -3; terms 4 99; choice 0 1 = 0; choice 7874 1 = 0; choice 0 48 = 0; choice 7874 48 = 0
            """, """
            begin 5; terms 4 1; terms 13 100; terms 0 4; choice 17 3 = 0; terms 0 5; choice 17 3 = 5; choice 0 1 = 5; choice 7874 48
            terms 0 2; terms 13 0; choice 0 1 = 2; terms 2 5; choice 0 1 = 2; ask 0 1; tick 1; choice 3 2; choice 8 20; choice 99 40
            """);
    }

    private static void attacks() {
        promise(36, "begin 4; " + CALM + """
            attack -1 = -3; attack 1 = -3; attack 0 = -31; attack MIN = -3; attack MAX = -3; feed "48aa"; attack -1 = -3; attack 21 = -3
            attack 20 = -31; attack 4 = -35; attack 3 = 96; attack 2 = -31; attack 1 = -31; attack 0 = -31; count 9 = 20; fault 0 = 0
            ask 0 48; attack 3 = 96; count 2 = 48; pattern 3 = -4; fault 0 = 0; feed "49a"; attack 3 = -32; feed "e"; attack 3 = -32
            fault 0 = 0; pattern 3 = -32; feed "d((((e"; attack 1 = 2; attack 5 = -34; attack 6 = -34; attack 4 = -31; fault 0 = 2
            pattern 1 = -4; feed "de"; attack 2 = -33; feed "a"; feed "a"; attack 60 = -33; attack 61 = -3; count 9 = 60; fault 0 = 0
            """);
    }

    private static void by() {
        promise(37, "begin 7; " + CALM + """
            by -1 1 = -2; by 6 1 = -2; by 0 0 = -3; by 5 6 = -3; by 0 1 = -5; by 5 5 = -5; by -1 0 = -2; by 6 6 = -2; by MIN 0 = -2; by MAX 9 = -2
            by 0 MIN = -3; by 0 MAX = -3; begin 16; by 6 0 = -2; by 0 6 = -3; by 1 1 = -5; begin 6; by 0 1 = 2; by 5 1 = 2; by 0 0 = -3
            by 0 6 = -3; terms 4 99; by 0 5 = 10; by 1 5 = 10; by 2 5 = 10; by 3 5 = 10; by 4 5 = 10; by 5 5 = 10; count 12 = 2
            """, """
            begin 4; terms 4 2; by 0 3 = 6; by 1 3 = 6; by 5 3 = 6; terms 4 1; by 0 3 = 2; by 1 3 = 2; by 2 3; by 3 3; by 4 3 = 2; by 5 3 = 4
            terms 13 100; by 2 3 = 2; terms 3 1; by 0 3; by 3 3; by 4 3; terms 2 5; pattern "abcd"; tick 4; worst 1; by 5 1; by 5 2; by 0 2
            """);
    }

    private static void coarse() {
        promise(38, "begin 4; " + CALM + """
            coarse 0 = -3; coarse 31 = -3; coarse -1 = -3; coarse MIN = -3; coarse MAX = -3; coarse 1 = 99; coarse 30 = 99; terms 0 60
            coarse 30 = -1; coarse 29 = 99; terms 0 61; coarse 30 = 99; terms 0 2; coarse 1 = -1; terms 0 3; coarse 1 = 99; coarse 2 = -1
            """, """
            begin 4; terms 2 1; terms 7 99; terms 12 8; terms 0 20; coarse 9 = 99; coarse 10 = 5; coarse 30 = 5; terms 2 5
            coarse 10; coarse 30; terms 4 7; terms 2 4; ask 1 3; tick 3; coarse 12; coarse 9; count 14 = 7; begin 16; coarse 30
            """,
            // ROW 0 has 6: from both sides, by STEP 5 nine more bring 24; others come to 24 by STEP 7
            "begin 4; swap 0 1; ask 1 3; tick 3; row 0 1 = 6; coarse 12 = 4; small 12 = 1; refresh 0; coarse 12 = 6",
            "begin 4; swap 3 2; ask 2 3; tick 3; row 3 1 = 6; coarse 12 = 4; refresh 3; coarse 12 = 6");
    }

    private static void small() {
        promise(39, "begin 4; " + CALM + """
            small 0 = -3; small 31 = -3; small -1 = -3; small MIN = -3; small MAX = -3; small 1 = 1; small 30 = 1; terms 0 60
            small 30 = -1; small 29 = 1; terms 0 61; small 30 = 1; terms 0 2; small 1 = -1; terms 0 3; small 1 = 1; small 2 = -1
            """, """
            begin 5; terms 4 1; terms 0 6; terms 7 99; small 5 = 1; small 6 = 2; small 30 = 2; terms 3 8; small 6 = 2; count 13 = 8
            terms 2 3; small 30; terms 2 4; small 30; ask 1 3; tick 3; small 9; begin 16; small 30
            """,
            // a SKETCH where ROWS two PLACES off are 2, 10, 12, 14 from one another by numbers: by SIZE 1 to 7 two share COUNTS
            "begin 16; terms 2 3; terms 4 2; terms 7 99; terms 0 8; swap 0 14; swap 3 15; small 13 = 8",
            // 1, 2, 3, 4, 6, 7, 8, 10 from one another: by any SIZE two share COUNTS
            "begin 12; terms 0 10; terms 2 3; terms 4 2; terms 7 5; terms 12 1; terms 9 2; swap 7 1; swap 0 3; swap 11 2; swap 8 0; small 10 = -1",
            "begin 7; terms 4 1; terms 7 6; terms 15 1; small 12 = -1; terms 15 0; small 12");
    }

    private static void done() {
        promise(40, "begin 4; " + CALM + """
            done -1 = -2; done 3 = -2; done MIN = -2; done MAX = -2; done 0 = 0; done 1 = 0; done 2 = 0
            ask 0 1; done 0 = 1; done 1 = 0; done 2 = 0; ask 0 47; done 0 = 48; done 2 = 47; terms 0 2; done 1 = 1; tick 9; done 0 = 39
            done 2 = 47; done 1 = 0; drop; done 0 = 0; done 1 = 0; done 2 = 0; told 2 = 8
            """, "begin 4; " + CALM + """
            terms 6 9; ask 0 48; done 0 = 424; done 2 = 423; tick 1; done 0 = 423; done 2 = 423; terms 2 1; terms 4 1; terms 10 3; done 0 = -1; done 2
            """, """
            begin 4; terms 2 5; terms 4 1; terms 5 499; terms 7 99; ask 3 2; done 0 = 500; done 2 = 499; terms 5 500; done 0 = -1; done 2 = 0
            terms 5 498; done 0 = 499; terms 0 2; done 1; tick 1; done 1; done 0 = 498; done 2 = 498; terms 5 501; done 0 = -1
            terms 5 500; done 0 = 500
            """);
    }

    private static void storms() {
        promise(41, "begin 4; " + CALM + """
            storm -1 1 0 = -3; storm 7875 1 0 = -3; storm 0 0 0 = -3; storm 0 49 0 = -3; storm 0 1 -1 = -2; storm 0 1 3 = -2
            storm -1 1 3 = -3; storm 7875 1 -1 = -3; storm 0 0 3 = -3; storm 0 49 -1 = -3; storm MIN 1 0 = -3; storm MAX 1 0 = -3
            storm 0 MIN 0 = -3; storm 0 MAX 0 = -3; storm 0 1 MIN = -2; storm 0 1 MAX = -2
            storm 0 1 0 = 2; storm 0 1 1 = 1; storm 0 1 2 = 0; storm 7874 1 0 = 2; storm 0 48 1 = 48; storm 7874 48 1 = 48; storm 0 48 2 = 0
            ask 0 48; storm 0 1 0 = 2; storm 0 48 1 = 48
            """,
            // 7874 modulo 4 is 2, then 421 times 7874 and 1663 is 1242 modulo 7875, 2 modulo 4 as well
            "begin 4; " + CALM + "storm 7874 2 0 = 4; storm 7874 1 0 = 2; terms 2 1; terms 4 1; storm 7874 1 1 = 3; storm 7874 1 2 = 1",
            // by CHANCE from 0: two DRAWS of ROWS, then 911 and 7219 of 100
            "begin 4; terms 2 2; terms 13 11; storm 0 2 2 = 0; terms 13 12; storm 0 2 2 = 1; terms 13 19; storm 0 2 2 = 1; terms 13 20\n"
                + "storm 0 2 2; ask 0 1; tick 1; told 4 = 1");
    }

    // ---- back

    private static void undone() {
        promise(42, """
            undo 1 = -3; undo 0 = -3; undo -1 = -3; undo 10 = -3; undo 11 = -3; undo MIN = -3; undo MAX = -3
            ask 0 1; undo 0 = -3; undo 2 = -3; undo 1 = 0; count 2 = 0; undo 1 = -3
            ask 0 1; ask 0 2; ask 0 3; ask 0 4; ask 0 5; ask 0 6; ask 0 7; ask 0 8; ask 0 9; undo 10 = -3; undo 9 = 0; count 2 = 0
            ask 0 1; ask 0 2; ask 0 3; ask 0 4; ask 0 5; ask 0 6; ask 0 7; ask 0 8; ask 0 9; drop; ask 0 7; undo 11 = -3; undo 10 = 0; count 2 = 1
            """);
    }

    private static void images() {
        promise(43, """
            image -1 = -2; image 2 = -2; image MIN = -2; image MAX = -2; restore 0 = -6; image 0 = 0; image 1 = 0; ask 0 1; image 0 = 0
            ask 0 1; restore 0 = 0; count 2 = 1; restore 1 = 0; count 2 = 0; image 1 = 0; image 2 = -2; restore 0 = 0; count 2 = 1
            """, "drop; image 0; count 7 = 1; undo 1 = 0");
    }

    private static void restored() {
        StringBuilder guards = new StringBuilder();
        for (int guard = 0; guard <= 5; guard++) {
            guards.append("begin 6; terms 2 ").append(guard).append("; swap 1 3; store 0 9; weak 2 7; ask 2 9; pair 0 1 9; tick 13\n");
            guards.append("image 0; begin 5; terms 4 77; terms 3 7; tick 9; restore 0; count 0 = 6; count 14 = 4; count 13 = 2; tick 5; image 1\n");
            guards.append("restore 0; tick 5; restore 1; count 7 = 0; ask 2 5; tick 7\n");
        }
        promise(44, """
            restore -1 = -2; restore 2 = -2; restore MIN = -2; restore MAX = -2; restore 0 = -6; restore 1 = -6; image 1; restore 0 = -6
            restore 1 = 0; restore 2 = -2; undo 1 = -3; ask 0 1; count 7 = 1; restore 0 = -6; count 7 = 1; restore 1 = 0; count 7 = 0
            """, guards.toString());
    }

    private static void counts() {
        promise(45, """
            count -1 = -1; count 28 = -1; count MIN = -1; count MAX = -1; count 27 = 0; count 26 = 0; count 10 = 24; count 9 = 0
            terms 16 2; count 26 = 2; count 27 = 0; terms 0 9; count 10 = 9; feed "a"; count 9 = 20; each count = 8 0 0 0 0 0 0 2 0 20 9
            """, """
            begin 16; terms 0 2; terms 2 2; terms 13 0; terms 16 1; terms 7 4; terms 9 8; weak 15 3; weak 1 3; ask 0 1; ask 14 1; tick 2; count 8 = 40962
            tick 3; count 27 = 2; count 6 = 8; tick 4; count 27 = 32770; count 6 = 0; terms 8 9; tick 4; count 5 = 8; count 4 = 0; tick 4; count 4 = 1
            """);
    }
}
