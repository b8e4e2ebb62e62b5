/** A new RowGuard whose calls are made by name, and counted: beyond the 512th nothing is promised. */
final class Calls {
    static final int MOST = 512;

    private final RowGuard real = new RowGuard();
    private int made;

    int made() {
        return made;
    }

    int call(String name, int... a) {
        made++;
        switch (name) {
            case "begin": return real.begin(a[0]);
            case "terms": return real.terms(a[0], a[1]);
            case "swap": return real.swap(a[0], a[1]);
            case "store": return real.store(a[0], a[1]);
            case "weak": return real.weak(a[0], a[1]);
            case "feed": return real.feed(a[0], a[1], a[2], a[3], a[4]);
            case "pattern": return real.pattern(a[0]);
            case "fault": return real.fault(a[0]);
            case "ask": return real.ask(a[0], a[1]);
            case "pair": return real.pair(a[0], a[1], a[2]);
            case "drop": return real.drop();
            case "refresh": return real.refresh(a[0]);
            case "tick": return real.tick(a[0]);
            case "row": return real.row(a[0], a[1]);
            case "at": return real.at(a[0]);
            case "data": return real.data(a[0], a[1]);
            case "slot": return real.slot(a[0], a[1]);
            case "spill": return real.spill();
            case "queued": return real.queued(a[0]);
            case "request": return real.request(a[0]);
            case "often": return real.often(a[0]);
            case "missed": return real.missed();
            case "most": return real.most(a[0]);
            case "spent": return real.spent(a[0]);
            case "told": return real.told(a[0]);
            case "could": return real.could();
            case "least": return real.least();
            case "hammer": return real.hammer(a[0], a[1], a[2]);
            case "breaks": return real.breaks(a[0], a[1]);
            case "worst": return real.worst(a[0]);
            case "order": return real.order(a[0], a[1]);
            case "fewest": return real.fewest();
            case "sure": return real.sure(a[0]);
            case "choice": return real.choice(a[0], a[1]);
            case "attack": return real.attack(a[0]);
            case "by": return real.by(a[0], a[1]);
            case "coarse": return real.coarse(a[0]);
            case "small": return real.small(a[0]);
            case "done": return real.done(a[0]);
            case "storm": return real.storm(a[0], a[1], a[2]);
            case "undo": return real.undo(a[0]);
            case "image": return real.image(a[0]);
            case "restore": return real.restore(a[0]);
            case "count": return real.count(a[0]);
            default: throw new IllegalArgumentException(name);
        }
    }

    /** The five ints of feed() that bring these signs, and bytes 0 behind them up to twenty. */
    static int[] bytesOf(String signs) {
        int[] a = new int[5];
        for (int i = 0; i < 20; i++) {
            a[i / 4] = a[i / 4] << 8 | (i < signs.length() ? signs.charAt(i) & 255 : 0);
        }
        return a;
    }
}
