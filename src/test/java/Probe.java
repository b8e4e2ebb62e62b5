/** What can be seen of an object, as a text, so that two objects can be held against one another. */
final class Probe {
    /** Each way changes the object on its own, so each wants an object of its own. */
    static final int WAYS = 4;

    private static final int ENOUGH = 400;

    private Probe() {
    }

    /** All that it tells of itself; the calls that can be UNDONE, THE TAPE and the FAULT aside. */
    static String state(Calls x) {
        StringBuilder all = new StringBuilder();
        for (int k = 0; k <= 27; k++) {
            if (k != 7 && k != 9) {
                put(all, x, "count", k);
            }
        }
        rows(all, x);
        for (int k = 0; k <= 8; k++) {
            put(all, x, "told", k);
            put(all, x, "slot", k, 0);
            put(all, x, "slot", k, 1);
        }
        for (int k = 0; k <= 3; k++) {
            put(all, x, "spent", k);
        }
        put(all, x, "spill");
        put(all, x, "missed");
        list(all, x, "request");
        list(all, x, "queued");
        return all.toString();
    }

    static String of(int way, Calls x) {
        StringBuilder all = new StringBuilder();
        switch (way) {
            case 0:
                all.append(state(x));
                tape(all, x);
                break;
            case 1:
                future(all, x);
                break;
            case 2:
                undone(all, x);
                break;
            default:
                images(all, x);
                break;
        }
        return all.toString();
    }

    private static void put(StringBuilder all, Calls x, String name, int... a) {
        all.append(x.call(name, a)).append(' ');
    }

    private static void rows(StringBuilder all, Calls x) {
        int rows = x.call("count", 0);
        for (int r = 0; r < rows; r++) {
            for (int what = 0; what <= 6; what++) {
                put(all, x, "row", r, what);
            }
            for (int what = 0; what <= 4; what++) {
                put(all, x, "data", r, what);
            }
            put(all, x, "at", r);
        }
    }

    private static void list(StringBuilder all, Calls x, String name) {
        int found = 0;
        for (int i = 0; found >= 0; i++) {
            found = x.call(name, i);
            all.append(found).append(' ');
        }
    }

    private static void tape(StringBuilder all, Calls x) {
        put(all, x, "count", 7);
        put(all, x, "fault", 0);
        put(all, x, "fault", 1);
        int bytes = x.call("count", 9);
        all.append(bytes).append(' ');
        for (int n = 0; n <= bytes && x.made() < ENOUGH; n++) {
            put(all, x, "attack", n);
        }
    }

    /** What no call tells (x, what began latest, what was seen longest ago) shows as time goes on. */
    private static void future(StringBuilder all, Calls x) {
        for (int i = 0; i < 9; i++) {
            put(all, x, "ask", (5 * i + 2) % 4, 2);
            put(all, x, "tick", 3);
            brief(all, x);
        }
    }

    private static void undone(StringBuilder all, Calls x) {
        int left = x.call("count", 7);
        for (int i = 0; i <= left && x.made() < ENOUGH; i++) {
            put(all, x, "undo", 1);
            brief(all, x);
        }
    }

    private static void images(StringBuilder all, Calls x) {
        for (int i = 1; i >= 0; i--) {
            put(all, x, "restore", i);
            put(all, x, "count", 7);
            brief(all, x);
            list(all, x, "request");
        }
    }

    /** Without count(7): as the eldest of ten is forgotten, it may be one less behind an undo(1). */
    private static void brief(StringBuilder all, Calls x) {
        for (int k = 0; k <= 6; k++) {
            put(all, x, "count", k);
        }
        put(all, x, "count", 8);
        for (int k = 1; k <= 8; k++) {
            put(all, x, "told", k);
        }
    }
}
