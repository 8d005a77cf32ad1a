import java.math.BigInteger;
import java.nio.charset.StandardCharsets;
import java.util.ArrayList;
import java.util.HashSet;
import java.util.List;
import java.util.Set;

/** The document once more, by its words and without regard to speed: what the random runs are held against. */
public final class Model {
    static final class Refused extends RuntimeException {
        private static final long serialVersionUID = 1L;
        final int status;

        Refused(int status) {
            this.status = status;
        }
    }

    static final class Hair implements Cloneable {
        int length;
        int grows;
        int stands;
        int wax;

        Hair copy() {
            Hair h = new Hair();
            h.length = length;
            h.grows = grows;
            h.stands = stands;
            h.wax = wax;
            return h;
        }
    }

    static final class World {
        List<Hair> hairs = new ArrayList<>();
        List<int[]> parties = new ArrayList<>();
        List<Integer> lips = new ArrayList<>();
        List<List<Integer>> looks = new ArrayList<>();
        List<String> barbers = new ArrayList<>();
        List<int[]> pairs = new ArrayList<>();
        List<String> names = new ArrayList<>();
        int odds = 2;
        int greys = 20;
        int day;
        boolean peace = true;
        int ruling;
        List<ModelTexts.Step> reigns;

        World copy() {
            World w = new World();
            for (Hair h : hairs) {
                w.hairs.add(h.copy());
            }
            for (int[] p : parties) {
                w.parties.add(p.clone());
            }
            w.lips.addAll(lips);
            for (List<Integer> look : looks) {
                w.looks.add(new ArrayList<>(look));
            }
            w.barbers.addAll(barbers);
            w.pairs.addAll(pairs);
            w.names.addAll(names);
            w.odds = odds;
            w.greys = greys;
            w.day = day;
            w.peace = peace;
            w.ruling = ruling;
            w.reigns = reigns;
            return w;
        }

        void dayGoesBy() {
            int lip = lips.isEmpty() ? 0 : lips.get(ruling);
            for (Hair h : hairs) {
                h.length += h.grows + lip;
                if (h.length > 99) {
                    h.length = 99;
                }
                if (h.wax == 0) {
                    if (peace && h.stands < 2) {
                        h.stands++;
                    }
                    if (!peace && h.stands > 0) {
                        h.stands--;
                    }
                } else {
                    h.wax--;
                }
            }
            day++;
        }

        World in(int days) {
            World w = copy();
            for (int i = 0; i < days; i++) {
                w.dayGoesBy();
            }
            return w;
        }

        int sum() {
            int sum = 0;
            for (Hair h : hairs) {
                sum += h.length;
            }
            return sum;
        }

        boolean shows(int look) {
            for (int h = 0; h < hairs.size(); h++) {
                int told = tells(look, h);
                if (told != 3 && told != hairs.get(h).stands) {
                    return false;
                }
            }
            return true;
        }

        int tells(int look, int hair) {
            List<Integer> sets = looks.get(look);
            return hair < sets.size() ? sets.get(hair) : 3;
        }

        int balance(int hair, int length) {
            int is = hairs.get(hair).length;
            int balance = 0;
            for (int[] p : parties) {
                int near = Math.abs(p[1] - is) - Math.abs(p[1] - length);
                balance += near > 0 ? p[0] : near < 0 ? -p[0] : 0;
            }
            return balance;
        }

        boolean grey(int hair) {
            int left = hair;
            int right = hairs.size() - hair - 1;
            return left < day / greys || right < day / greys;
        }

        String rows() {
            StringBuilder b = new StringBuilder();
            for (Hair h : hairs) {
                b.append(h.stands);
            }
            return b.toString();
        }
    }

    World world = new World();
    private final long[][] trays = new long[4][];
    private final int[] sorts = new int[4];
    private final List<World> marks = new ArrayList<>();
    private byte[] tape = new byte[0];
    private long top = 0;
    private long bottom = 1;
    private int faultKind = -1;
    private int faultPlace = -1;
    private int[] account;

    private static void unless(boolean holds, int status) {
        if (!holds) {
            throw new Refused(status);
        }
    }

    private static void range(int v, int least, int most) {
        unless(v >= least && v <= most, 5);
    }

    private static void such(int v, List<?> of) {
        unless(v >= 0 && v < of.size(), 2);
    }

    private Hair hairOf(int h) {
        such(h, world.hairs);
        return world.hairs.get(h);
    }

    private boolean fraction(BigInteger t, BigInteger b) {
        BigInteger g = t.gcd(b);
        top = t.divide(g).longValueExact();
        bottom = b.divide(g).longValueExact();
        return true;
    }

    public long top() {
        return top;
    }

    public long bottom() {
        return bottom;
    }

    private long[] trayOf(int tray) {
        unless(tray >= 0 && tray < 4, 1);
        unless(trays[tray] != null, 3);
        return trays[tray];
    }

    public boolean tray(int tray, int sort, int many) {
        unless(tray >= 0 && tray < 4 && sort >= 0 && sort < 4, 1);
        unless(many <= 60, 5);
        unless(many >= 0, 6);
        trays[tray] = new long[many];
        sorts[tray] = sort;
        return true;
    }

    public boolean write(int tray, int place, long v) {
        long[] row = trayOf(tray);
        unless(place >= 0 && place < row.length, 4);
        int bits = 8 << sorts[tray];
        row[place] = v << (64 - bits) >> (64 - bits);
        return true;
    }

    public long read(int tray, int place) {
        long[] row = trayOf(tray);
        unless(place >= 0 && place < row.length, 4);
        return row[place];
    }

    public boolean pour(int tray, int i, int to, int j, int many) {
        unless(tray >= 0 && tray < 4 && to >= 0 && to < 4, 1);
        unless(trays[tray] != null && trays[to] != null, 3);
        unless(sorts[tray] == sorts[to], 11);
        unless(many >= 0, 6);
        unless(i >= 0 && j >= 0 && (long) i + many <= trays[tray].length && (long) j + many <= trays[to].length, 4);
        long[] was = trays[tray].clone();
        for (int k = 0; k < many; k++) {
            trays[to][j + k] = was[i + k];
        }
        return true;
    }

    public int feed(int a, int b, int c, int d, int e) {
        if (tape.length + 20 > 900) {
            return -1;
        }
        byte[] more = java.nio.ByteBuffer.allocate(tape.length + 20).put(tape).putInt(a).putInt(b).putInt(c).putInt(d).putInt(e).array();
        tape = more;
        return tape.length;
    }

    private String take(int n, int most) {
        unless(n >= 0 && n <= tape.length && n <= most, 5);
        String text = new String(tape, 0, n, StandardCharsets.ISO_8859_1);
        tape = new byte[0];
        faultKind = 0;
        faultPlace = -1;
        return text;
    }

    private Refused fault(ModelTexts.Fault f) {
        faultKind = f.kind;
        faultPlace = f.place;
        return new Refused(10);
    }

    public int state(int n) {
        String text = take(n, 900);
        try {
            world = new ModelTexts(text).state();
        } catch (ModelTexts.Fault f) {
            throw fault(f);
        }
        return world.hairs.size();
    }

    public int reigns(int n) {
        String text = take(n, 300);
        try {
            ModelTexts texts = new ModelTexts(text);
            world.reigns = texts.reigns(world.names);
            return texts.steps;
        } catch (ModelTexts.Fault f) {
            throw fault(f);
        }
    }

    public int fault(int what) {
        return what == 0 ? faultKind : what == 1 ? faultPlace : -1;
    }

    private interface HairTest {
        boolean holds(Hair h);
    }

    private int setOf(HairTest test) {
        int set = 0;
        for (int h = 0; h < world.hairs.size(); h++) {
            set += test.holds(world.hairs.get(h)) ? 1 << h : 0;
        }
        return set;
    }

    public int many(int what) {
        range(what, 0, 15);
        int seats = 0;
        for (int[] p : world.parties) {
            seats += p[0];
        }
        int grey = 0;
        for (int h = 0; h < world.hairs.size(); h++) {
            grey += world.grey(h) ? 1 << h : 0;
        }
        int[] all = {world.hairs.size(), world.parties.size(), world.lips.size(), world.looks.size(), world.barbers.size(),
            world.pairs.size(), world.odds, world.greys, world.day, world.peace ? 1 : 0, setOf(h -> h.wax > 0), grey,
            setOf(h -> h.stands == 2), setOf(h -> h.stands == 0), world.sum(), seats};
        return all[what];
    }

    public int hair(int hair, int what) {
        Hair h = hairOf(hair);
        range(what, 0, 3);
        return new int[] {h.length, h.grows, h.stands, h.wax}[what];
    }

    public int party(int party, int what) {
        such(party, world.parties);
        range(what, 0, 1);
        return world.parties.get(party)[what];
    }

    public int ruler() {
        unless(!world.lips.isEmpty(), 8);
        return world.ruling;
    }

    public int lip(int ruler) {
        such(ruler, world.lips);
        return world.lips.get(ruler);
    }

    public int look(int look, int hair) {
        such(look, world.looks);
        hairOf(hair);
        return world.tells(look, hair);
    }

    public int pair(int pair, int what) {
        such(pair, world.pairs);
        range(what, 0, 1);
        return world.pairs.get(pair)[what];
    }

    public int copyLengths(int tray) {
        long[] row = trayOf(tray);
        unless(row.length >= world.hairs.size(), 4);
        for (int h = 0; h < world.hairs.size(); h++) {
            write(tray, h, world.hairs.get(h).length);
        }
        return world.hairs.size();
    }

    public int day(int days) {
        range(days, 1, 99);
        unless(world.day + days <= 9999, 7);
        world = world.in(days);
        return world.sum();
    }

    public boolean peace(boolean is) {
        unless(world.peace != is, 9);
        world.peace = is;
        return true;
    }

    public int wax(int hair, int days) {
        Hair h = hairOf(hair);
        range(days, 0, 99);
        int was = h.wax;
        h.wax = days;
        return was;
    }

    public int trim(int hair, int length) {
        Hair h = hairOf(hair);
        range(length, 0, 99);
        unless(h.length > length, 9);
        int gone = h.length - length;
        h.length = length;
        return gone;
    }

    public int vote(int hair, int length) {
        if (poll(hair, length) > 0) {
            world.hairs.get(hair).length = length;
            return 1;
        }
        return 0;
    }

    public int hand() {
        unless(world.ruling + 1 < world.lips.size(), 9);
        return ++world.ruling;
    }

    public boolean comb(int hair, int to) {
        Hair h = hairOf(hair);
        range(to, 0, 2);
        unless(h.stands != to, 9);
        h.stands = to;
        return true;
    }

    public boolean elect(int party, int seats) {
        such(party, world.parties);
        range(seats, 1, 99);
        world.parties.get(party)[0] = seats;
        return true;
    }

    public boolean rule(int what, int much) {
        range(what, 6, 7);
        if (what == 6) {
            range(much, 0, 16);
            world.odds = much;
        } else {
            range(much, 1, 99);
            world.greys = much;
        }
        return true;
    }

    public boolean dream(int look, int hair, int to) {
        int is = look(look, hair);
        range(to, 0, 3);
        unless(is != to, 9);
        List<Integer> sets = world.looks.get(look);
        while (sets.size() <= hair) {
            sets.add(3);
        }
        sets.set(hair, to);
        return true;
    }

    public int graft(int length, int grows) {
        range(length, 0, 99);
        range(grows, 0, 9);
        unless(world.hairs.size() < 8, 7);
        Hair h = new Hair();
        h.length = length;
        h.grows = grows;
        h.stands = 1;
        world.hairs.add(h);
        return world.hairs.size() - 1;
    }

    public int shown(int look) {
        such(look, world.looks);
        return world.shows(look) ? 1 : 0;
    }

    public int reads() {
        for (int look = 0; look < world.looks.size(); look++) {
            if (world.shows(look)) {
                return look;
            }
        }
        throw new Refused(8);
    }

    public int wrong(int look) {
        such(look, world.looks);
        int wrong = 0;
        for (int h = 0; h < world.hairs.size(); h++) {
            wrong += world.tells(look, h) == 3 || world.tells(look, h) == world.hairs.get(h).stands ? 0 : 1;
        }
        return wrong;
    }

    private interface WorldTest {
        boolean holds(World w);
    }

    private int firstDay(WorldTest test) {
        World w = world.copy();
        for (int d = 0; d <= 200; d++) {
            if (test.holds(w)) {
                return d;
            }
            w.dayGoesBy();
        }
        throw new Refused(8);
    }

    public int shownIn(int look) {
        such(look, world.looks);
        return firstDay(w -> w.shows(look));
    }

    /** All rows that can be come to in just one DAY more. */
    private static Set<String> oneDayMore(Set<String> rows) {
        Set<String> then = new HashSet<>(rows);
        for (String row : rows) {
            for (int by = -1; by <= 1; by += 2) {
                List<String> moved = new ArrayList<>();
                moved.add("");
                for (char c : row.toCharArray()) {
                    List<String> longer = new ArrayList<>();
                    char to = (char) Math.max('0', Math.min('2', c + by));
                    for (String m : moved) {
                        longer.add(m + c);
                        if (to != c) {
                            longer.add(m + to);
                        }
                    }
                    moved = longer;
                }
                then.addAll(moved);
            }
        }
        return then;
    }

    public int reach(int look) {
        such(look, world.looks);
        Set<String> rows = new HashSet<>();
        rows.add(world.rows());
        for (int d = 0;; d++) {
            for (String row : rows) {
                World w = world.copy();
                for (int h = 0; h < row.length(); h++) {
                    w.hairs.get(h).stands = row.charAt(h) - '0';
                }
                if (w.shows(look)) {
                    return d;
                }
            }
            rows = oneDayMore(rows);
        }
    }

    public int within(int n) {
        range(n, 0, 4);
        Set<String> rows = new HashSet<>();
        rows.add(world.rows());
        for (int d = 0; d < n; d++) {
            rows = oneDayMore(rows);
        }
        return rows.size();
    }

    public int agree(int look, int other) {
        such(look, world.looks);
        such(other, world.looks);
        for (int h = 0; h < world.hairs.size(); h++) {
            boolean could = false;
            for (int s = 0; s < 3; s++) {
                could |= (world.tells(look, h) == 3 || world.tells(look, h) == s) && (world.tells(other, h) == 3 || world.tells(other, h) == s);
            }
            if (!could) {
                return 0;
            }
        }
        return 1;
    }

    public int lengthIn(int hair, int days) {
        hairOf(hair);
        range(days, 0, 200);
        return world.in(days).hairs.get(hair).length;
    }

    public int standsIn(int hair, int days) {
        hairOf(hair);
        range(days, 0, 200);
        return world.in(days).hairs.get(hair).stands;
    }

    public int longIn(int hair, int length) {
        hairOf(hair);
        range(length, 0, 99);
        return firstDay(w -> w.hairs.get(hair).length >= length);
    }

    public int evenIn() {
        return firstDay(w -> w.rows().chars().distinct().count() <= 1);
    }

    public int greyIn(int days) {
        range(days, 0, 999);
        World w = world.in(days);
        int count = 0;
        for (int h = 0; h < w.hairs.size(); h++) {
            count += w.grey(h) ? 1 : 0;
        }
        return count;
    }

    public int poll(int hair, int length) {
        Hair h = hairOf(hair);
        range(length, 0, 99);
        unless(h.length > length, 9);
        return world.balance(hair, length);
    }

    public int passes(int hair) {
        Hair h = hairOf(hair);
        for (int length = 0; length < h.length; length++) {
            if (world.balance(hair, length) > 0) {
                return length;
            }
        }
        throw new Refused(8);
    }

    private int lengthsOf(int set) {
        int sum = 0;
        for (int h = 0; h < world.hairs.size(); h++) {
            sum += (set >> h & 1) * world.hairs.get(h).length;
        }
        return sum;
    }

    public int shortestSet(int length) {
        range(length, 0, 999);
        for (int count = 0;; count++) {
            for (int set = 0; set < 1 << world.hairs.size(); set++) {
                if (Integer.bitCount(set) == count && world.sum() - lengthsOf(set) <= length) {
                    return set;
                }
            }
        }
    }

    public int shortest(int length) {
        return Integer.bitCount(shortestSet(length));
    }

    public int dividedBy() {
        int least = Integer.MAX_VALUE;
        for (int set = 0; set < 1 << world.hairs.size(); set++) {
            least = Math.min(least, Math.abs(world.sum() - 2 * lengthsOf(set)));
        }
        return least;
    }

    public int divided() {
        for (int set = 0;; set++) {
            if (Math.abs(world.sum() - 2 * lengthsOf(set)) == dividedBy()) {
                return set;
            }
        }
    }

    public int seen(int tray, int n) {
        long[] row = trayOf(tray);
        unless(2L * n <= row.length, 4);
        range(n, 0, 20);
        int set = (1 << world.hairs.size()) - 1;
        for (int i = 0; i < n; i++) {
            unless(row[2 * i] >= 0 && row[2 * i] <= 200 && row[2 * i + 1] >= 0 && row[2 * i + 1] <= 99, 5);
            World w = world.in((int) row[2 * i]);
            for (int h = 0; h < w.hairs.size(); h++) {
                if (w.hairs.get(h).length != row[2 * i + 1]) {
                    set &= ~(1 << h);
                }
            }
        }
        return set;
    }

    private boolean allIn(int set) {
        Set<Integer> in = new HashSet<>();
        for (int p = 0; p < world.pairs.size(); p++) {
            if ((set >> p & 1) == 1) {
                in.add(world.pairs.get(p)[0]);
                in.add(world.pairs.get(p)[1]);
            }
        }
        return in.size() == world.barbers.size();
    }

    public int pairedSet() {
        for (int count = 0; count <= world.pairs.size(); count++) {
            for (int set = 0; set < 1 << world.pairs.size(); set++) {
                if (Integer.bitCount(set) == count && allIn(set)) {
                    return set;
                }
            }
        }
        throw new Refused(8);
    }

    public int paired() {
        return Integer.bitCount(pairedSet());
    }

    public int watches(int barber) {
        such(barber, world.barbers);
        int set = 0;
        for (int b = 0; b < world.barbers.size(); b++) {
            for (int[] p : world.pairs) {
                if (p[0] == barber && p[1] == b || p[1] == barber && p[0] == b) {
                    set |= 1 << b;
                }
            }
        }
        return set;
    }

    private static World played(World w, int hair) {
        World then = w.copy();
        if (hair < then.hairs.size()) {
            then.hairs.get(hair).length = 0;
        }
        then.dayGoesBy();
        return then;
    }

    private static int worth(World w, int left, boolean first) {
        int n = w.hairs.size();
        int worth = 0;
        if (left == 0) {
            for (int h = 0; h < n; h++) {
                worth += h < n / 2 ? w.hairs.get(h).length : -w.hairs.get(h).length;
            }
            return worth;
        }
        worth = first ? Integer.MIN_VALUE : Integer.MAX_VALUE;
        for (int h = 0; h <= n; h++) {
            int is = worth(played(w, h), left - 1, !first);
            worth = first ? Math.max(worth, is) : Math.min(worth, is);
        }
        return worth;
    }

    public int game(int turns) {
        range(turns, 0, 3);
        return worth(world, turns, true);
    }

    public int moveOf(int turns) {
        range(turns, 1, 3);
        for (int h = 0; h < world.hairs.size(); h++) {
            if (worth(played(world, h), turns - 1, false) == worth(world, turns, true)) {
                return h;
            }
        }
        throw new Refused(8);
    }

    public boolean legible(int look, int k) {
        such(look, world.looks);
        range(k, 0, 8);
        int told = 0;
        for (int h = 0; h < world.hairs.size(); h++) {
            told += world.tells(look, h) == 3 ? 0 : 1;
        }
        BigInteger sum = BigInteger.ZERO;
        for (int ruffled = 0; ruffled < 1 << told; ruffled++) {
            int r = Integer.bitCount(ruffled);
            if (r <= k) {
                sum = sum.add(BigInteger.valueOf(world.odds).pow(r).multiply(BigInteger.valueOf(16 - world.odds).pow(told - r)));
            }
        }
        return fraction(sum, BigInteger.valueOf(16).pow(told));
    }

    public boolean share(int party) {
        such(party, world.parties);
        return fraction(BigInteger.valueOf(world.parties.get(party)[0]), BigInteger.valueOf(many(15)));
    }

    public int live(int seed) {
        range(seed, 0, 9999);
        unless(world.reigns != null, 8);
        ModelLife life = new ModelLife(world, seed);
        life.live();
        account = new int[] {life.missed, life.days, life.trimmed, life.passed, life.left ? 1 : 0};
        return life.steps;
    }

    public int lived(int what) {
        range(what, 0, 4);
        unless(account != null, 8);
        return account[what];
    }

    public boolean mean(int seed, int many) {
        range(seed, 0, 9999);
        range(many, 1, 20);
        range(seed + many - 1, 0, 9999);
        unless(world.reigns != null, 8);
        long sum = 0;
        for (int s = seed; s < seed + many; s++) {
            World w = world.copy();
            new ModelLife(w, s).live();
            sum += w.sum();
        }
        return fraction(BigInteger.valueOf(sum), BigInteger.valueOf(many));
    }

    public int mark() {
        unless(marks.size() < 3, 7);
        marks.add(world.copy());
        return marks.size();
    }

    public int back() {
        unless(!marks.isEmpty(), 8);
        world = marks.remove(marks.size() - 1);
        return marks.size();
    }
}
