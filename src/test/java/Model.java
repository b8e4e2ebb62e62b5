import java.util.ArrayList;
import java.util.Arrays;
import java.util.HashMap;
import java.util.List;
import java.util.Map;

/**
 * The document told a second time, slowly and with the Java library, so that RandomRuns can hold RowGuard
 * against it. It shares no code with RowGuard on purpose.
 */
final class Model {
    static final int[][] RANGE = {{1, 999}, {1, 2}, {0, 5}, {1, 8}, {1, 99}, {4, 999}, {1, 9}, {4, 99}, {1, 9}, {1, 8},
        {1, 9}, {1, 8}, {0, 8}, {0, 100}, {0, 1}, {0, 1}, {0, 2}};

    static final class Row {
        int number;
        int disturbed;
        boolean flipped;
        int opened;
        int ever;
        int data;
        int good;
        int weak;
        boolean lost;

        Row(int number) {
            this.number = number;
            weak = 1 << (number & 7);
        }

        Row copy() {
            Row c = new Row(number);
            c.disturbed = disturbed;
            c.flipped = flipped;
            c.opened = opened;
            c.ever = ever;
            c.data = data;
            c.good = good;
            c.weak = weak;
            c.lost = lost;
            return c;
        }
    }

    static final class State {
        int[] terms = {24, 1, 0, 2, 4, 64, 1, 16, 1, 1, 1, 1, 0, 10, 1, 0, 0};
        List<Row> rows = new ArrayList<>();
        List<Integer> places = new ArrayList<>();
        Map<Integer, Integer> counts = new HashMap<>();
        Integer[] slotRows = new Integer[8];
        int[] slotCounts = new int[8];
        List<Integer> seen = new ArrayList<>();
        int[][] sketch = new int[2][8];
        int spill;
        int x;
        int time;
        List<int[]> requests = new ArrayList<>();
        List<Integer> queue = new ArrayList<>();
        int owed;
        int way = -1;
        int toGo;
        int latestBegan = -1;
        int next;
        int[] spent = new int[4];
        int[] told = new int[9];
        int peak;

        State copy() {
            State c = new State();
            c.terms = terms.clone();
            for (Row r : rows) {
                c.rows.add(r.copy());
            }
            c.places.addAll(places);
            c.counts.putAll(counts);
            c.slotRows = slotRows.clone();
            c.slotCounts = slotCounts.clone();
            c.seen.addAll(seen);
            c.sketch = new int[][] {sketch[0].clone(), sketch[1].clone()};
            c.spill = spill;
            c.x = x;
            c.time = time;
            for (int[] q : requests) {
                c.requests.add(q.clone());
            }
            c.queue.addAll(queue);
            c.owed = owed;
            c.way = way;
            c.toGo = toGo;
            c.latestBegan = latestBegan;
            c.next = next;
            c.spent = spent.clone();
            c.told = told.clone();
            c.peak = peak;
            return c;
        }

        void begin(int n) {
            rows.clear();
            places.clear();
            for (int i = 0; i < n; i++) {
                rows.add(new Row(i));
                places.add(i);
            }
            empty();
            x = 17;
            time = 0;
            requests.clear();
            queue.clear();
            owed = 0;
            way = -1;
            toGo = 0;
            latestBegan = -1;
            next = 0;
            spent = new int[4];
            told = new int[9];
        }

        void empty() {
            counts.clear();
            Arrays.fill(slotRows, null);
            Arrays.fill(slotCounts, 0);
            seen.clear();
            sketch = new int[2][8];
            spill = 0;
        }

        int count(int r) {
            int size = terms[3];
            switch (terms[2]) {
                case 0:
                case 4:
                    for (int i = 0; i < size; i++) {
                        if (slotRows[i] != null && slotRows[i] == r) {
                            return slotCounts[i];
                        }
                    }
                    return 0;
                case 1:
                case 5:
                    return counts.getOrDefault(r, 0);
                case 3:
                    return Math.min(sketch[0][r % size], sketch[1][(3 * r + 1) % size]);
                default:
                    return 0;
            }
        }

        int draw(int m) {
            int d = x % m;
            x = (421 * x + 1663) % 7875;
            return d;
        }

        void disturb(int r) {
            int p = places.indexOf(r);
            for (int d = 1; d <= terms[1]; d++) {
                for (int q : new int[] {p - d, p + d}) {
                    if (q >= 0 && q < rows.size()) {
                        Row o = rows.get(places.get(q));
                        boolean less = o.disturbed < terms[0];
                        o.disturbed += 3 - d;
                        peak = Math.max(peak, o.disturbed);
                        if (less && o.disturbed >= terms[0]) {
                            o.flipped = true;
                            o.data ^= o.weak;
                            told[3]++;
                        }
                    }
                }
            }
        }

        boolean fires(int r) {
            int size = terms[3];
            int g = terms[2];
            if (g == 2) {
                return draw(100) < terms[13];
            }
            if (g == 1 || g == 5) {
                counts.merge(r, 1, Integer::sum);
            } else if (g == 3) {
                sketch[0][r % size]++;
                sketch[1][(3 * r + 1) % size]++;
            } else {
                int at = -1;
                for (int i = size - 1; i >= 0; i--) {
                    if (slotRows[i] != null && slotRows[i] == r) {
                        at = i;
                    }
                }
                if (g == 0 && at < 0) {
                    for (int i = size - 1; i >= 0; i--) {
                        if (slotCounts[i] == spill) {
                            at = i;
                        }
                    }
                    if (at < 0) {
                        spill++;
                        return false;
                    }
                    slotRows[at] = r;
                    slotCounts[at] = spill + 1;
                } else if (g == 4 && at < 0) {
                    for (int i = size - 1; i >= 0; i--) {
                        if (slotRows[i] == null) {
                            at = i;
                        }
                    }
                    for (int i = 0; at < 0; i++) {
                        for (int s = 0; s < size; s++) {
                            if (slotRows[s].equals(seen.get(i))) {
                                at = s;
                            }
                        }
                    }
                    slotRows[at] = r;
                    slotCounts[at] = 1;
                } else {
                    slotCounts[at]++;
                }
                seen.remove((Integer) r);
                seen.add(r);
            }
            return g != 5 && count(r) % terms[4] == 0;
        }

        void neighbours(int r) {
            for (int d = 1; d <= terms[1]; d++) {
                for (int side : new int[] {-d, d}) {
                    int o;
                    if (terms[14] == 1) {
                        int p = places.indexOf(r) + side;
                        o = p >= 0 && p < rows.size() ? places.get(p) : -1;
                    } else {
                        o = r + side;
                    }
                    if (o >= 0 && o < rows.size() && !queue.contains(o)) {
                        queue.add(o);
                    }
                }
            }
        }

        void open(int r) {
            rows.get(r).disturbed = 0;
            rows.get(r).opened++;
            rows.get(r).ever++;
            disturb(r);
            if (fires(r)) {
                told[4]++;
                neighbours(r);
            }
        }

        void scrub(int r) {
            Row o = rows.get(r);
            int bad = Integer.bitCount(o.data ^ o.good);
            if (bad == 1) {
                o.data = o.good;
                told[7]++;
            } else if (bad > 1) {
                if (!o.lost) {
                    told[8]++;
                }
                o.lost = true;
            }
        }

        int first() {
            for (int i = 0; i < requests.size(); i++) {
                if (terms[2] != 5 || count(requests.get(i)[0]) < terms[4]) {
                    return i;
                }
            }
            return -1;
        }

        void tick() {
            if (time > 0 && time % terms[7] == 0 && owed < 99) {
                owed++;
            }
            if (time > 0 && time % terms[5] == 0) {
                empty();
                for (Row r : rows) {
                    r.opened = 0;
                }
            }
            if (toGo == 0) {
                way = -1;
                start(first());
                if (way >= 0) {
                    latestBegan = way;
                }
            }
            spent[toGo > 0 ? way : 3]++;
            toGo = Math.max(0, toGo - 1);
            time++;
        }

        void start(int first) {
            if (owed > 0 && (first < 0 || owed > terms[12])) {
                way = 0;
                toGo = terms[8];
                owed--;
                for (int i = 0; i < terms[9]; i++) {
                    int r = places.get(next);
                    if (terms[16] > 0) {
                        scrub(r);
                    }
                    rows.get(r).disturbed = 0;
                    told[6]++;
                    next = next + 1 == rows.size() ? 0 : next + 1;
                }
                return;
            }
            if (!queue.isEmpty() && (queue.size() >= terms[11] || first < 0 || latestBegan == 1)) {
                way = 1;
                toGo = terms[10];
                int r = queue.remove(0);
                if (terms[16] > 1) {
                    scrub(r);
                }
                rows.get(r).disturbed = 0;
                told[5]++;
                if (terms[15] == 1) {
                    disturb(r);
                }
                return;
            }
            if (first >= 0) {
                way = 2;
                toGo = terms[6];
                int[] q = requests.remove(first);
                int wait = time - q[1];
                told[0]++;
                told[1] += wait;
                told[2] = Math.max(told[2], wait);
                open(q[0]);
            }
        }

        int flippedBits() {
            int b = 0;
            for (Row r : rows) {
                b |= r.flipped ? 1 << r.number : 0;
            }
            return b;
        }

        int lostBits() {
            int b = 0;
            for (Row r : rows) {
                b |= r.lost ? 1 << r.number : 0;
            }
            return b;
        }
    }

    State s = new State();
    List<State> past = new ArrayList<>();
    State[] images = new State[2];
    List<Integer> tape = new ArrayList<>();
    int fault = 0;
    int faultPlace = -1;

    Model() {
        s.begin(8);
    }

    // ---- helpers

    boolean isRow(int r) {
        return r >= 0 && r < s.rows.size();
    }

    void keep() {
        past.add(s.copy());
        if (past.size() > 10) {
            past.remove(0);
        }
    }

    /** What is left of a run ON PAPER. */
    static final class Run {
        State end;
        int ticks;
        int flips;
        int fires;
    }

    static Run paper(State from, List<Integer> requests) {
        Run run = new Run();
        State w = from.copy();
        w.requests.clear();
        for (int r : requests) {
            w.requests.add(new int[] {r, w.time});
        }
        w.peak = 0;
        for (Row r : w.rows) {
            w.peak = Math.max(w.peak, r.disturbed);
        }
        while (run.ticks < 500 && (!w.requests.isEmpty() || !w.queue.isEmpty() || w.toGo > 0)) {
            w.tick();
            run.ticks++;
        }
        run.end = w;
        run.flips = w.told[3] - from.told[3];
        run.fires = w.told[4] - from.told[4];
        return run;
    }

    static List<Integer> hammering(State from, int r, int n, int what) {
        List<Integer> by = new ArrayList<>();
        if (what == 0) {
            by.add(r);
        } else {
            int p = from.places.indexOf(r);
            if (p > 0) {
                by.add(from.places.get(p - 1));
            }
            if (p + 1 < from.rows.size()) {
                by.add(from.places.get(p + 1));
            }
        }
        List<Integer> all = new ArrayList<>();
        for (int i = 0; i < n; i++) {
            all.add(by.get(i % by.size()));
        }
        return all;
    }

    static void orders(int rows, int n, List<Integer> head, List<List<Integer>> all) {
        if (n == 0) {
            all.add(new ArrayList<>(head));
            return;
        }
        for (int r = 0; r < rows; r++) {
            head.add(r);
            orders(rows, n - 1, head, all);
            head.remove(head.size() - 1);
        }
    }

    static List<List<Integer>> orders(int rows, int n) {
        List<List<Integer>> all = new ArrayList<>();
        orders(rows, n, new ArrayList<>(), all);
        return all;
    }

    static int worstPeak(State from, int n, List<Integer> kept) {
        int best = -1;
        for (List<Integer> o : orders(from.rows.size(), n)) {
            int p = paper(from, o).end.peak;
            if (p > best) {
                best = p;
                kept.clear();
                kept.addAll(o);
            }
        }
        return best;
    }

    static boolean someOrderFlips(State from, int n) {
        for (List<Integer> o : orders(from.rows.size(), n)) {
            if (paper(from, o).flips > 0) {
                return true;
            }
        }
        return false;
    }

    static boolean someHammerFlips(State from, int n) {
        for (int r = 0; r < from.rows.size(); r++) {
            for (int what = 0; what < 2; what++) {
                if (paper(from, hammering(from, r, n, what)).flips > 0) {
                    return true;
                }
            }
        }
        return false;
    }

    State with(int term, int v) {
        State c = s.copy();
        c.terms[term] = v;
        c.empty();
        return c;
    }

    static Run stormOf(State from, int seed, int n) {
        State c = from.copy();
        c.x = seed;
        List<Integer> all = new ArrayList<>();
        for (int i = 0; i < n; i++) {
            all.add(c.draw(c.rows.size()));
        }
        return paper(c, all);
    }

    // ---- patterns, by descent

    static final class Fault extends RuntimeException {
        final int kind;
        final int place;

        Fault(int kind, int place) {
            super(null, null, false, false);
            this.kind = kind;
            this.place = place;
        }
    }

    static final class Parse {
        final List<Integer> bytes;
        final int rows;
        int i;

        Parse(List<Integer> bytes, int rows) {
            this.bytes = bytes;
            this.rows = rows;
        }

        int sign() {
            return i < bytes.size() ? bytes.get(i) : -1;
        }

        boolean digit() {
            return sign() >= 48 && sign() <= 57;
        }

        /** Stops ahead of what is no PART; of over 48 REQUESTS it keeps 49 only. */
        List<Integer> parts(int open) {
            List<Integer> all = new ArrayList<>();
            do {
                all.addAll(part(open));
                while (all.size() > 49) {
                    all.remove(all.size() - 1);
                }
            } while (i < bytes.size() && !(sign() == ')' && open > 0));
            return all;
        }

        List<Integer> part(int open) {
            int times = 1;
            if (digit()) {
                int start = i;
                StringBuilder digits = new StringBuilder();
                while (digit()) {
                    digits.append((char) sign());
                    i++;
                }
                if (digits.length() > 2) {
                    throw new Fault(2, start);
                }
                times = Integer.parseInt(digits.toString());
                if (times < 1 || times > 48) {
                    throw new Fault(2, start);
                }
            }
            List<Integer> once = new ArrayList<>();
            int c = sign();
            if (c >= 'a' && c <= 'p') {
                if (c - 'a' >= rows) {
                    throw new Fault(3, i);
                }
                once.add(c - 'a');
                i++;
            } else if (c == '(') {
                if (open == 3) {
                    throw new Fault(4, i);
                }
                i++;
                once = parts(open + 1);
                if (sign() != ')') {
                    throw new Fault(1, i);
                }
                i++;
            } else {
                throw new Fault(1, i);
            }
            List<Integer> all = new ArrayList<>();
            for (int k = 0; k < times; k++) {
                all.addAll(once);
            }
            return all;
        }
    }

    List<Integer> parse(int n) {
        List<Integer> all = new Parse(new ArrayList<>(tape.subList(0, n)), s.rows.size()).parts(0);
        if (all.size() > 48) {
            throw new Fault(5, -1);
        }
        return all;
    }

    // ---- the calls

    int call(String name, int[] a) {
        switch (name) {
            case "begin":
                if (a[0] < 4 || a[0] > 16) {
                    return -3;
                }
                keep();
                s.begin(a[0]);
                return a[0];
            case "terms": {
                if (a[0] < 0 || a[0] > 16) {
                    return -2;
                }
                if (a[1] < RANGE[a[0]][0] || a[1] > RANGE[a[0]][1]) {
                    return -3;
                }
                keep();
                int was = s.terms[a[0]];
                s.terms[a[0]] = a[1];
                if (a[0] == 2 || a[0] == 3) {
                    s.empty();
                }
                return was;
            }
            case "swap": {
                if (!isRow(a[0]) || !isRow(a[1])) {
                    return -2;
                }
                if (a[0] == a[1]) {
                    return -3;
                }
                keep();
                int p = s.places.indexOf(a[0]);
                int q = s.places.indexOf(a[1]);
                s.places.set(p, a[1]);
                s.places.set(q, a[0]);
                return Math.abs(p - q);
            }
            case "store":
            case "weak": {
                if (!isRow(a[0])) {
                    return -2;
                }
                if (a[1] < 0 || a[1] > 255) {
                    return -3;
                }
                keep();
                Row r = s.rows.get(a[0]);
                int was = name.equals("weak") ? r.weak : r.data;
                if (name.equals("weak")) {
                    r.weak = a[1];
                } else {
                    r.data = a[1];
                    r.good = a[1];
                    r.lost = false;
                }
                return was;
            }
            case "feed":
                if (tape.size() + 20 > 60) {
                    return -4;
                }
                for (int v : a) {
                    for (int k = 3; k >= 0; k--) {
                        tape.add((v >>> (8 * k)) & 0xFF);
                    }
                }
                return tape.size();
            case "pattern": {
                if (a[0] < 0 || a[0] > tape.size()) {
                    return -3;
                }
                List<Integer> all;
                try {
                    all = parse(a[0]);
                } catch (Fault f) {
                    fault = f.kind;
                    faultPlace = f.place;
                    tape.clear();
                    return -30 - f.kind;
                }
                fault = 0;
                faultPlace = -1;
                tape.clear();
                return add(all);
            }
            case "fault":
                return a[0] == 0 ? fault : a[0] == 1 ? faultPlace : -1;
            case "ask": {
                if (!isRow(a[0])) {
                    return -2;
                }
                if (a[1] < 1 || a[1] > 48) {
                    return -3;
                }
                return add(new ArrayList<>(java.util.Collections.nCopies(a[1], a[0])));
            }
            case "pair": {
                if (!isRow(a[0]) || !isRow(a[1])) {
                    return -2;
                }
                if (a[2] < 1 || a[2] > 48 || a[0] == a[1]) {
                    return -3;
                }
                List<Integer> all = new ArrayList<>();
                while (all.size() < a[2]) {
                    all.add(all.size() % 2 == 0 ? a[0] : a[1]);
                }
                return add(all);
            }
            case "drop": {
                keep();
                int were = s.requests.size();
                s.requests.clear();
                return were;
            }
            case "refresh": {
                if (!isRow(a[0])) {
                    return -2;
                }
                keep();
                int was = s.rows.get(a[0]).disturbed;
                s.rows.get(a[0]).disturbed = 0;
                return was;
            }
            case "tick":
                if (a[0] < 1 || a[0] > 200) {
                    return -3;
                }
                keep();
                for (int i = 0; i < a[0]; i++) {
                    s.tick();
                }
                return s.requests.size();
            case "undo":
                if (a[0] < 1 || a[0] > 10 || a[0] > past.size()) {
                    return -3;
                }
                for (int i = 0; i < a[0]; i++) {
                    s = past.remove(past.size() - 1);
                }
                return past.size();
            case "image":
                if (a[0] != 0 && a[0] != 1) {
                    return -2;
                }
                images[a[0]] = s.copy();
                return 0;
            case "restore":
                if (a[0] != 0 && a[0] != 1) {
                    return -2;
                }
                if (images[a[0]] == null) {
                    return -6;
                }
                s = images[a[0]].copy();
                past.clear();
                return 0;
            default:
                return look(name, a);
        }
    }

    int add(List<Integer> all) {
        if (s.requests.size() + all.size() > 48) {
            return -4;
        }
        keep();
        for (int r : all) {
            s.requests.add(new int[] {r, s.time});
        }
        return s.requests.size();
    }

    int look(String name, int[] a) {
        switch (name) {
            case "row": {
                if (!isRow(a[0]) || a[1] < 0 || a[1] > 6) {
                    return -2;
                }
                Row r = s.rows.get(a[0]);
                int[] all = {s.places.indexOf(a[0]), r.disturbed, r.opened, r.ever, r.flipped ? 1 : 0, s.count(a[0]),
                    s.queue.indexOf(a[0])};
                return all[a[1]];
            }
            case "at":
                return isRow(a[0]) ? s.places.get(a[0]) : -2;
            case "data": {
                if (!isRow(a[0]) || a[1] < 0 || a[1] > 4) {
                    return -2;
                }
                Row r = s.rows.get(a[0]);
                int[] all = {r.data, r.good, r.weak, Integer.bitCount(r.data ^ r.good), r.lost ? 1 : 0};
                return all[a[1]];
            }
            case "slot": {
                int g = s.terms[2];
                if (g == 1 || g == 2 || g == 5 || a[0] < 0 || a[0] >= s.terms[3] || a[1] < 0 || a[1] > 1) {
                    return -2;
                }
                if (g == 3) {
                    return s.sketch[a[1]][a[0]];
                }
                return a[1] == 1 ? s.slotCounts[a[0]] : s.slotRows[a[0]] == null ? -1 : s.slotRows[a[0]];
            }
            case "spill":
                return s.terms[2] == 0 ? s.spill : -1;
            case "queued":
                return a[0] < 0 ? -3 : a[0] < s.queue.size() ? s.queue.get(a[0]) : -1;
            case "request":
                return a[0] < 0 ? -3 : a[0] < s.requests.size() ? s.requests.get(a[0])[0] : -1;
            case "often": {
                if (a[0] < 1 || a[0] > 999) {
                    return -3;
                }
                int b = 0;
                for (Row r : s.rows) {
                    b |= r.opened >= a[0] ? 1 << r.number : 0;
                }
                return b;
            }
            case "missed": {
                int b = 0;
                for (Row r : s.rows) {
                    b |= r.opened >= s.terms[4] && s.count(r.number) < r.opened ? 1 << r.number : 0;
                }
                return b;
            }
            case "most": {
                Row best = s.rows.get(0);
                for (Row r : s.rows) {
                    best = r.disturbed > best.disturbed ? r : best;
                }
                int[] all = {best.number, best.disturbed, Math.max(0, s.terms[0] - best.disturbed)};
                return a[0] < 0 || a[0] > 2 ? -2 : all[a[0]];
            }
            case "spent":
                return a[0] < 0 || a[0] > 3 ? -2 : s.spent[a[0]];
            case "told":
                return a[0] < 0 || a[0] > 8 ? -2 : s.told[a[0]];
            case "count": {
                if (a[0] < 0 || a[0] > 27) {
                    return -1;
                }
                if (a[0] >= 10 && a[0] <= 26) {
                    return s.terms[a[0] - 10];
                }
                int[] all = {s.rows.size(), s.time, s.requests.size(), s.queue.size(), s.owed, s.toGo, s.next,
                    past.size(), s.flippedBits(), tape.size()};
                return a[0] == 27 ? s.lostBits() : all[a[0]];
            }
            default:
                return onPaper(name, a);
        }
    }

    int onPaper(String name, int[] a) {
        boolean wide = s.rows.size() > 6;
        switch (name) {
            case "could":
                return s.terms[5] / s.terms[6];
            case "least": {
                int size = 0;
                while (s.terms[5] / s.terms[6] >= s.terms[4] * (size + 1)) {
                    size++;
                }
                return size;
            }
            case "hammer":
                if (!isRow(a[0]) || a[2] < 0 || a[2] > 1) {
                    return -2;
                }
                return a[1] < 1 || a[1] > 99 ? -3 : paper(s, hammering(s, a[0], a[1], a[2])).end.peak;
            case "breaks":
                if (!isRow(a[0]) || a[1] < 0 || a[1] > 1) {
                    return -2;
                }
                for (int n = 1; n < 100; n++) {
                    if (paper(s, hammering(s, a[0], n, a[1])).flips > 0) {
                        return n;
                    }
                }
                return -1;
            case "worst":
                return a[0] < 1 || a[0] > 5 ? -3 : wide ? -5 : worstPeak(s, a[0], new ArrayList<>());
            case "order": {
                if (a[0] < 1 || a[0] > 5 || a[1] < 0) {
                    return -3;
                }
                if (wide) {
                    return -5;
                }
                List<Integer> kept = new ArrayList<>();
                worstPeak(s, a[0], kept);
                return a[1] < kept.size() ? kept.get(a[1]) : -1;
            }
            case "fewest":
                if (wide) {
                    return -5;
                }
                for (int n = 1; n < 6; n++) {
                    if (someOrderFlips(s, n)) {
                        return n;
                    }
                }
                return -1;
            case "sure":
                if (a[0] < 1 || a[0] > 4) {
                    return -3;
                }
                if (wide) {
                    return -5;
                }
                for (int size = 1; size < 9; size++) {
                    if (!someOrderFlips(with(3, size), a[0])) {
                        return size;
                    }
                }
                return -1;
            case "choice": {
                if (a[0] < 0 || a[0] > 7874 || a[1] < 1 || a[1] > 48) {
                    return -3;
                }
                int best = -1;
                long least = Long.MAX_VALUE;
                for (int g = 0; g < 6; g++) {
                    Run run = stormOf(with(2, g), a[0], a[1]);
                    long cost = run.flips * 100000L + run.ticks;
                    if (cost < least) {
                        least = cost;
                        best = g;
                    }
                }
                return best;
            }
            case "attack":
                if (a[0] < 0 || a[0] > tape.size()) {
                    return -3;
                }
                try {
                    return paper(s, parse(a[0])).end.peak;
                } catch (Fault f) {
                    return -30 - f.kind;
                }
            case "by":
                if (a[0] < 0 || a[0] > 5) {
                    return -2;
                }
                return a[1] < 1 || a[1] > 5 ? -3 : wide ? -5 : worstPeak(with(2, a[0]), a[1], new ArrayList<>());
            case "coarse":
                if (a[0] < 1 || a[0] > 30) {
                    return -3;
                }
                for (int step = 99; step > 0; step--) {
                    if (!someHammerFlips(with(4, step), a[0])) {
                        return step;
                    }
                }
                return -1;
            case "small":
                if (a[0] < 1 || a[0] > 30) {
                    return -3;
                }
                for (int size = 1; size < 9; size++) {
                    if (!someHammerFlips(with(3, size), a[0])) {
                        return size;
                    }
                }
                return -1;
            case "done": {
                if (a[0] < 0 || a[0] > 2) {
                    return -2;
                }
                State w = s.copy();
                w.told[2] = 0;
                int ticks = 0;
                while (ticks < 500 && !w.requests.isEmpty()) {
                    w.tick();
                    ticks++;
                }
                int[] all = {w.requests.isEmpty() ? ticks : -1, w.told[3] - s.told[3], w.told[2]};
                return all[a[0]];
            }
            case "storm": {
                if (a[0] < 0 || a[0] > 7874 || a[1] < 1 || a[1] > 48) {
                    return -3;
                }
                if (a[2] < 0 || a[2] > 2) {
                    return -2;
                }
                Run run = stormOf(s, a[0], a[1]);
                int[] all = {run.end.peak, run.ticks, run.fires};
                return all[a[2]];
            }
            default:
                throw new IllegalArgumentException(name);
        }
    }
}
