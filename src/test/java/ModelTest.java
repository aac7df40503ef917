import java.math.BigInteger;
import java.util.ArrayDeque;
import java.util.ArrayList;
import java.util.Arrays;
import java.util.HashMap;
import java.util.List;
import java.util.Map;
import java.util.Random;
import java.util.regex.Matcher;
import java.util.regex.Pattern;

/**
 * Many runs of calls drawn by fixed seeds, each call answered by the class and by a second telling
 * of the document that shares no code with it and goes another way wherever there is one: texts by
 * a pattern and by trying what could come behind them, sheets by a search over exchanges, shares by
 * all orders, chances by splitting hour by hour.
 */
public final class ModelTest {
    private static final int UNKNOWN = -1, OUTSIDE = -2, STATE = -3, FULL = -4, NONE = -9;
    private static final String[] NAMES = {
        "write", "wipe", "fault", "city", "balloon", "hedge", "let", "hour", "free", "right", "undo",
        "later", "comes", "best", "most", "judge", "find", "lose", "began", "share", "rests", "fails",
        "seed", "years", "keep", "again", "count"};
    private static final int CALLS_A_RUN = 512;
    private static final int RUNS = 3000;

    /** One balloon as it is in some hour; never changed, only told anew. */
    private record Flyer(int row, int column, char is, int hedge, int since, int way, int child) {
        int cell() {
            return row * 5 + column;
        }

        Flyer become(char what) {
            return new Flyer(row, column, what, what == 'C' ? hedge : NONE, what == 'C' ? since : 0, way, child);
        }

        Flyer to(int otherChild) {
            return new Flyer(row, column, is, hedge, since, way, otherChild);
        }
    }

    private record World(List<Flyer> flyers, int hour) {
        World with(int b, Flyer flyer) {
            List<Flyer> others = new ArrayList<>(flyers);
            others.set(b, flyer);
            return new World(List.copyOf(others), hour);
        }
    }

    private record Told(int[] winds, List<int[]> balloons, List<int[]> hedges) { }

    private static final Pattern CITY = Pattern.compile("C(W[0-4]|B[a-t][0-3][0-3]|H[a-t][0-9][0-3])*", Pattern.DOTALL);
    private static final Pattern PART = Pattern.compile("W[0-4]|B[a-t][0-3][0-3]|H[a-t][0-9][0-3]");
    private static final String[] BEHIND = {"", "C", "0", "00", "a00", "b00", "c00", "d00", "e00"};

    private static Told read(String text) {
        if (!CITY.matcher(text).matches()) {
            return null;
        }
        List<Integer> winds = new ArrayList<>();
        List<int[]> balloons = new ArrayList<>();
        Map<Integer, int[]> hedges = new java.util.LinkedHashMap<>();
        Matcher parts = PART.matcher(text);
        while (parts.find()) {
            String part = parts.group();
            if (part.charAt(0) == 'W') {
                winds.add(part.charAt(1) - '0');
            } else {
                int[] of = {part.charAt(1) - 'a', part.charAt(2) - '0', part.charAt(3) - '0'};
                if (part.charAt(0) == 'B') {
                    balloons.add(of);
                } else if (hedges.put(of[0], of) != null) {
                    return null;
                }
            }
        }
        if (winds.size() > 4 || balloons.size() > 5 || hedges.size() > 4) {
            return null;
        }
        int[] row = winds.stream().mapToInt(w -> w).toArray();
        return new Told(row, balloons, new ArrayList<>(hedges.values()));
    }

    private static boolean canBecomeCity(String text) {
        for (String behind : BEHIND) {
            if (read(text + behind) != null) {
                return true;
            }
        }
        return false;
    }

    private static int faultOf(String text) {
        for (int i = 0; i < text.length(); i++) {
            if (!canBecomeCity(text.substring(0, i + 1))) {
                return i;
            }
        }
        return read(text) == null ? text.length() : NONE;
    }

    /** The second telling. */
    private static final class Model {
        StringBuilder text = new StringBuilder();
        Told told = new Told(new int[0], List.of(), List.of());
        World world = new World(List.of(), 0);
        ArrayDeque<World> acts = new ArrayDeque<>();
        Map<Integer, World> kept = new HashMap<>();
        List<int[]> found = new ArrayList<>();
        long seed = 0;

        int balloons() {
            return told.balloons.size();
        }

        boolean isBalloon(int b) {
            return 0 <= b && b <= balloons() - 1;
        }

        boolean isHedge(int h) {
            return 0 <= h && h <= told.hedges.size() - 1;
        }

        int windAt(int hour) {
            int n = told.winds.length;
            return n == 0 ? 0 : told.winds[hour - hour / n * n];
        }

        Flyer blown(Flyer f, int kind, int wind, int hour) {
            if (f.is != 'F') {
                return f;
            }
            int way = kind == 1 && f.way != 0 ? f.way : wind;
            int steps = kind == 2 ? 1 - hour % 2 : kind == 3 ? 2 : 1;
            int row = f.row;
            int column = f.column;
            for (int i = 0; i < steps; i++) {
                int nextRow = row + (way == 4 ? 1 : way == 3 ? -1 : 0);
                int nextColumn = column + (way == 1 ? 1 : way == 2 ? -1 : 0);
                if (nextRow < 0 || nextRow > 3 || nextColumn < 0 || nextColumn > 4) {
                    return new Flyer(row, column, 'G', NONE, 0, way, f.child);
                }
                row = nextRow;
                column = nextColumn;
            }
            return new Flyer(row, column, 'F', NONE, 0, kind == 1 ? way : 0, f.child);
        }

        World hourOf(World w, int wind, int hedgesThatAre) {
            List<Flyer> next = new ArrayList<>();
            for (int b = 0; b < w.flyers.size(); b++) {
                Flyer f = blown(w.flyers.get(b), told.balloons.get(b)[1], wind, w.hour);
                for (int h = 0; h < told.hedges.size(); h++) {
                    boolean there = told.hedges.get(h)[0] == f.cell() && (hedgesThatAre & 1 << h) != 0;
                    if (f.is == 'F' && there) {
                        f = new Flyer(f.row, f.column, 'C', h, w.hour + 1, f.way, f.child);
                    }
                }
                next.add(f);
            }
            return new World(List.copyOf(next), w.hour + 1);
        }

        World hours(World w, int n) {
            return n == 0 ? w : hours(hourOf(w, windAt(w.hour), 15), n - 1);
        }

        boolean answered(World w, int b) {
            Flyer f = w.flyers.get(b);
            return f.is == 'C' && w.hour >= f.since + told.hedges.get(f.hedge)[1];
        }

        boolean glad(World w, int child) {
            for (int b = 0; b < balloons(); b++) {
                Flyer f = w.flyers.get(b);
                if (f.child == child && answered(w, b)) {
                    return told.hedges.get(f.hedge)[2] == told.balloons.get(child)[2];
                }
            }
            return false;
        }

        int howManyGlad(World w) {
            int n = 0;
            for (int child = 0; child < balloons(); child++) {
                n += glad(w, child) ? 1 : 0;
            }
            return n;
        }

        World exchanged(World w, int one, int other) {
            Flyer f = w.flyers.get(one);
            Flyer g = w.flyers.get(other);
            return w.with(one, f.to(g.child)).with(other, g.to(f.child));
        }

        int bits(World w, char what) {
            int bits = 0;
            for (int b = 0; b < balloons(); b++) {
                bits += w.flyers.get(b).is == what ? 1 << b : 0;
            }
            return bits;
        }

        void act(World next) {
            acts.addLast(world);
            if (acts.size() > 14) {
                acts.removeFirst();
            }
            world = next;
        }

        long answer(String call, long[] a) {
            int p = a.length > 0 ? (int) a[0] : 0;
            int q = a.length > 1 ? (int) a[1] : 0;
            int r = a.length > 2 ? (int) a[2] : 0;
            switch (call) {
                case "write": return write(p);
                case "wipe": return wipe();
                case "fault": return faultOf(text.toString());
                case "city": return city();
                case "balloon": return balloon(p, q);
                case "hedge": return hedge(p, q);
                case "let": return let(p);
                case "hour": return hour();
                case "free": return free(p);
                case "right": return right(p, q);
                case "undo": return undo();
                case "later": return later(p, q, r);
                case "comes": return comes(p);
                case "best": return best(p);
                case "most": return most(p);
                case "judge": return judge(p, a[1]);
                case "find": return find(p, q);
                case "lose": return lose();
                case "began": return began(p);
                case "share": return share(p, q == 1);
                case "rests": return rests(p, q, r);
                case "fails": return fails(p, q, r, (int) a[3], a[4] == 1);
                case "seed": return seed(a[0]);
                case "years": return years(p);
                case "keep": return keep(p);
                case "again": return again(p);
                default: return count(p);
            }
        }

        long write(int letter) {
            if (letter != (letter & 255)) {
                return OUTSIDE;
            }
            return text.length() == 48 ? FULL : text.append((char) letter).length();
        }

        long wipe() {
            int n = text.length();
            text = new StringBuilder();
            return n;
        }

        long city() {
            Told next = read(text.toString());
            if (next == null) {
                return STATE;
            }
            told = next;
            acts.clear();
            kept.clear();
            List<Flyer> flyers = new ArrayList<>();
            for (int b = 0; b < balloons(); b++) {
                int cell = told.balloons.get(b)[0];
                flyers.add(new Flyer(cell / 5, cell % 5, 'H', NONE, 0, 0, b));
            }
            world = new World(List.copyOf(flyers), 0);
            return told.winds.length * 100 + balloons() * 10 + told.hedges.size();
        }

        long balloon(int b, int what) {
            if (!isBalloon(b)) {
                return UNKNOWN;
            }
            Flyer f = world.flyers.get(b);
            switch (what) {
                case 0: return f.cell();
                case 1: return told.balloons.get(b)[1];
                case 2: return told.balloons.get(b)[2];
                case 3: return "HFCG".indexOf(f.is);
                case 4: return f.hedge;
                case 5: return f.child;
                case 6: return answered(world, b) ? 1 : 0;
                case 7: return glad(world, b) ? 1 : 0;
                default: return OUTSIDE;
            }
        }

        long hedge(int h, int what) {
            if (!isHedge(h)) {
                return UNKNOWN;
            }
            if (what < 0 || what > 3) {
                return OUTSIDE;
            }
            if (what < 3) {
                return told.hedges.get(h)[what];
            }
            int bits = 0;
            for (int b = 0; b < balloons(); b++) {
                bits += world.flyers.get(b).hedge == h ? 1 << b : 0;
            }
            return bits;
        }

        boolean is(World w, int b, char what) {
            return isBalloon(b) && w.flyers.get(b).is == what;
        }

        long let(int b) {
            if (!isBalloon(b)) {
                return UNKNOWN;
            }
            if (!is(world, b, 'H')) {
                return STATE;
            }
            act(world.with(b, world.flyers.get(b).become('F')));
            return Integer.bitCount(bits(world, 'F'));
        }

        long hour() {
            int were = bits(world, 'C');
            act(hours(world, 1));
            return Integer.bitCount(bits(world, 'C') - were);
        }

        long free(int b) {
            if (!isBalloon(b)) {
                return UNKNOWN;
            }
            if (!is(world, b, 'C')) {
                return STATE;
            }
            int h = world.flyers.get(b).hedge;
            act(world.with(b, world.flyers.get(b).become('F')));
            return h;
        }

        long right(int one, int other) {
            if (!isBalloon(one) || !isBalloon(other)) {
                return UNKNOWN;
            }
            if (one == other) {
                return OUTSIDE;
            }
            act(exchanged(world, one, other));
            return howManyGlad(world);
        }

        long undo() {
            if (acts.isEmpty()) {
                return STATE;
            }
            world = acts.removeLast();
            return acts.size();
        }

        long later(int b, int n, int what) {
            if (!isBalloon(b)) {
                return UNKNOWN;
            }
            if (n < 0 || n > 20 || what < 0 || what > 1) {
                return OUTSIDE;
            }
            Flyer f = hours(world, n).flyers.get(b);
            return what == 0 ? f.cell() : "HFCG".indexOf(f.is);
        }

        long comes(int b) {
            if (!isBalloon(b)) {
                return UNKNOWN;
            }
            for (int n = 0; n <= 30; n++) {
                if (answered(hours(world, n), b)) {
                    return n;
                }
            }
            return NONE;
        }

        long best(int b) {
            if (!isBalloon(b)) {
                return UNKNOWN;
            }
            if (!is(world, b, 'H')) {
                return STATE;
            }
            for (int wait = 0; wait <= 12; wait++) {
                World w = hours(world, wait);
                w = w.with(b, w.flyers.get(b).become('F'));
                for (int n = 1; n <= 20; n++) {
                    w = hours(w, 1);
                    int h = w.flyers.get(b).hedge;
                    if (h != NONE && told.hedges.get(h)[2] == told.balloons.get(b)[2]) {
                        return wait;
                    }
                }
            }
            return NONE;
        }

        /** Outward from now, one exchange more each time; the first to reach a number is the nearest. */
        long most(int what) {
            if (what < 0 || what > 1) {
                return OUTSIDE;
            }
            Map<List<Integer>, Integer> exchanges = new HashMap<>();
            ArrayDeque<World> open = new ArrayDeque<>();
            open.add(world);
            exchanges.put(children(world), 0);
            int most = -1;
            int fewest = -1;
            while (!open.isEmpty()) {
                World w = open.removeFirst();
                int so = exchanges.get(children(w));
                int glad = howManyGlad(hours(w, 30));
                if (glad > most) {
                    most = glad;
                    fewest = so;
                }
                for (int one = 0; one < balloons(); one++) {
                    for (int other = 0; other < one; other++) {
                        World next = exchanged(w, one, other);
                        if (exchanges.putIfAbsent(children(next), so + 1) == null) {
                            open.addLast(next);
                        }
                    }
                }
            }
            return what == 0 ? most : fewest;
        }

        List<Integer> children(World w) {
            List<Integer> children = new ArrayList<>();
            w.flyers.forEach(f -> children.add(f.child));
            return children;
        }

        long judge(int n, long row) {
            if (n < 1 || n > 4 || row < 0 || Long.toString(row).length() > 3 * n) {
                return OUTSIDE;
            }
            String figures = "0".repeat(3 * n - Long.toString(row).length()) + row;
            World w = world;
            for (int i = 0; i < n; i++) {
                w = done(w, figures.substring(3 * i, 3 * i + 3));
                if (w == null) {
                    return i;
                }
            }
            return NONE;
        }

        World done(World w, String doing) {
            int b = doing.charAt(2) - '0';
            int a = doing.charAt(1) - '0';
            if (doing.equals("000")) {
                return hours(w, 1);
            }
            if (doing.startsWith("10")) {
                return is(w, b, 'H') ? w.with(b, w.flyers.get(b).become('F')) : null;
            }
            if (doing.startsWith("20")) {
                return is(w, b, 'C') ? w.with(b, w.flyers.get(b).become('F')) : null;
            }
            if (doing.startsWith("3")) {
                return isBalloon(a) && isBalloon(b) && a != b ? exchanged(w, a, b) : null;
            }
            return doing.startsWith("40") && isBalloon(b) && glad(w, b) ? w : null;
        }

        long find(int cell, int n) {
            if (cell < 0 || cell > 19) {
                return UNKNOWN;
            }
            if (n < 0 || n > 9) {
                return OUTSIDE;
            }
            if (found.size() == 6) {
                return FULL;
            }
            found.add(new int[] {cell, n});
            return found.size();
        }

        long lose() {
            int n = found.size();
            found = new ArrayList<>();
            return n;
        }

        long began(int kind) {
            if (kind < 0 || kind > 3) {
                return OUTSIDE;
            }
            int bits = 0;
            for (int cell = 0; cell < 20; cell++) {
                boolean all = true;
                for (int[] f : found) {
                    all &= cellBehind(cell, kind, f[1]) == f[0];
                }
                bits += all ? 1 << cell : 0;
            }
            return bits;
        }

        int cellBehind(int start, int kind, int n) {
            Flyer f = new Flyer(start / 5, start % 5, 'F', NONE, 0, 0, 0);
            for (int hour = 0; hour < n; hour++) {
                f = blown(f, kind, windAt(hour), hour);
            }
            return f.is == 'F' ? f.cell() : NONE;
        }

        int gladWith(int hedges) {
            World w = world;
            for (int b = 0; b < balloons(); b++) {
                Flyer f = w.flyers.get(b);
                if (f.is == 'C' && (hedges & 1 << f.hedge) == 0) {
                    w = w.with(b, f.become('G'));
                }
            }
            for (int i = 0; i < 30; i++) {
                w = hourOf(w, windAt(w.hour), hedges);
            }
            return howManyGlad(w);
        }

        long share(int h, boolean upper) {
            if (!isHedge(h)) {
                return UNKNOWN;
            }
            Map<Integer, Integer> glad = new HashMap<>();
            for (int set = 0; set < 1 << told.hedges.size(); set++) {
                glad.put(set, gladWith(set));
            }
            long[] sum = new long[2];
            overOrders(0, h, glad, sum);
            return fraction(BigInteger.valueOf(sum[0]), BigInteger.valueOf(sum[1]), upper);
        }

        void overOrders(int come, int h, Map<Integer, Integer> glad, long[] sum) {
            if (come == (1 << told.hedges.size()) - 1) {
                sum[1]++;
                return;
            }
            for (int next = 0; next < told.hedges.size(); next++) {
                if ((come & 1 << next) == 0) {
                    int then = come | 1 << next;
                    long[] below = new long[2];
                    overOrders(then, h, glad, below);
                    sum[0] += below[0] + (next == h ? below[1] * (glad.get(then) - glad.get(come)) : 0);
                    sum[1] += below[1];
                }
            }
        }

        long fraction(BigInteger above, BigInteger below, boolean upper) {
            BigInteger common = above.gcd(below);
            return (upper ? above : below).divide(common).longValueExact();
        }

        long rests(int one, int other, int what) {
            if (!isBalloon(one) || !isBalloon(other)) {
                return UNKNOWN;
            }
            if (one == other || what < 0 || what > 1) {
                return OUTSIDE;
            }
            if (!is(world, one, 'H') || !is(world, other, 'H')) {
                return STATE;
            }
            List<Integer> rest = new ArrayList<>();
            for (int a = 0; a < 2; a++) {
                for (int b = 0; b < 2; b++) {
                    int oneHas = joy(one, a, other, b);
                    int otherHas = joy(other, b, one, a);
                    if (joy(one, 1 - a, other, b) <= oneHas && joy(other, 1 - b, one, a) <= otherHas) {
                        rest.add(10 * a + b);
                    }
                }
            }
            return what == 0 ? rest.size() : rest.isEmpty() ? NONE : rest.get(0);
        }

        int joy(int mine, int iLet, int other, int otherLets) {
            World w = world;
            w = iLet == 1 ? w.with(mine, w.flyers.get(mine).become('F')) : w;
            w = otherLets == 1 ? w.with(other, w.flyers.get(other).become('F')) : w;
            w = hours(w, 9);
            boolean together = is(w, mine, 'C') && w.flyers.get(mine).hedge == w.flyers.get(other).hedge;
            return (glad(w, mine) ? 3 : 0) + (iLet == 0 ? 1 : 0) - (together ? 1 : 0);
        }

        long fails(int b, int h, int n, int x, boolean upper) {
            if (!isBalloon(b) || !isHedge(h)) {
                return UNKNOWN;
            }
            if (n < 1 || n > 6 || x < 0 || x > 10) {
                return OUTSIDE;
            }
            return fraction(likely(world, b, h, n, x), BigInteger.TEN.pow(n), upper);
        }

        BigInteger likely(World w, int b, int h, int n, int x) {
            if (n == 0) {
                return w.flyers.get(b).hedge == h ? BigInteger.ONE : BigInteger.ZERO;
            }
            BigInteger failing = likely(hourOf(w, 0, 15), b, h, n - 1, x);
            BigInteger blowing = likely(hourOf(w, windAt(w.hour), 15), b, h, n - 1, x);
            return failing.multiply(BigInteger.valueOf(x)).add(blowing.multiply(BigInteger.valueOf(10 - x)));
        }

        long seed(long v) {
            long was = seed;
            seed = v;
            return was;
        }

        long years(int m) {
            if (m < 1 || m > 30) {
                return OUTSIDE;
            }
            World w = world;
            int glad = 0;
            for (int i = 0; i < m; i++) {
                BigInteger x = BigInteger.valueOf(seed).multiply(new BigInteger("6364136223846793005"))
                        .add(new BigInteger("1442695040888963407")).mod(BigInteger.TWO.pow(64));
                seed = x.longValue();
                int drawn = x.divide(BigInteger.TWO.pow(33)).mod(BigInteger.valueOf(24)).intValueExact();
                String doing = drawn < 5 ? "10" + drawn : drawn < 10 ? "20" + (drawn - 5)
                        : drawn < 13 ? "3" + (drawn - 10) + (drawn - 9) : "000";
                World next = done(w, doing);
                w = next == null ? w : next;
                glad += howManyGlad(w);
            }
            return glad;
        }

        long keep(int slot) {
            if (slot < 0 || slot > 1) {
                return UNKNOWN;
            }
            kept.put(slot, world);
            return world.hour;
        }

        long again(int slot) {
            if (slot < 0 || slot > 1) {
                return UNKNOWN;
            }
            if (!kept.containsKey(slot)) {
                return STATE;
            }
            world = kept.get(slot);
            acts.clear();
            return world.hour;
        }

        long count(int what) {
            switch (what) {
                case 0: return text.length();
                case 1: return told.winds.length;
                case 2: return balloons();
                case 3: return told.hedges.size();
                case 4: return world.hour;
                case 5: return windAt(world.hour);
                case 6: case 7: case 8: case 9: return bits(world, "HFCG".charAt(what - 6));
                case 10: case 11: return eachBit(what == 10);
                case 12: return acts.size();
                case 13: return found.size();
                default: return OUTSIDE;
            }
        }

        int eachBit(boolean whoIsAnswered) {
            int bits = 0;
            for (int b = 0; b < balloons(); b++) {
                bits += (whoIsAnswered ? answered(world, b) : glad(world, b)) ? 1 << b : 0;
            }
            return bits;
        }
    }

    private static long ask(RedBalloons x, String call, long[] a) {
        int p = a.length > 0 ? (int) a[0] : 0;
        int q = a.length > 1 ? (int) a[1] : 0;
        int r = a.length > 2 ? (int) a[2] : 0;
        switch (call) {
            case "write": return x.write(p);
            case "wipe": return x.wipe();
            case "fault": return x.fault();
            case "city": return x.city();
            case "balloon": return x.balloon(p, q);
            case "hedge": return x.hedge(p, q);
            case "let": return x.let(p);
            case "hour": return x.hour();
            case "free": return x.free(p);
            case "right": return x.right(p, q);
            case "undo": return x.undo();
            case "later": return x.later(p, q, r);
            case "comes": return x.comes(p);
            case "best": return x.best(p);
            case "most": return x.most(p);
            case "judge": return x.judge(p, a[1]);
            case "find": return x.find(p, q);
            case "lose": return x.lose();
            case "began": return x.began(p);
            case "share": return x.share(p, q == 1);
            case "rests": return x.rests(p, q, r);
            case "fails": return x.fails(p, q, r, (int) a[3], a[4] == 1);
            case "seed": return x.seed(a[0]);
            case "years": return x.years(p);
            case "keep": return x.keep(p);
            case "again": return x.again(p);
            default: return x.count(p);
        }
    }

    /** Draws calls: mostly as they are meant, at times with numbers from beyond their bounds. */
    private static final class Draw {
        final Random by;

        Draw(long seed) {
            by = new Random(seed);
        }

        int upTo(int last) {
            int wild = by.nextInt(40);
            if (wild == 0) {
                return -1;
            }
            if (wild == 1) {
                return last + 1;
            }
            return wild == 2 && by.nextInt(8) == 0 ? by.nextInt() : by.nextInt(last + 1);
        }

        /** Somewhere, or near the middle in one line of cells, so that much is caught. */
        char cell(int line) {
            String[] lines = {"abcdefghijklmnopqrst", "fghij", "klmno", "chmr", "ghilmn", "abcde"};
            String cells = lines[line];
            return cells.charAt(by.nextInt(cells.length()));
        }

        String text() {
            StringBuilder s = new StringBuilder("C");
            List<String> parts = new ArrayList<>();
            int line = by.nextInt(6);
            int winds = by.nextInt(5);
            int balloons = by.nextInt(10) == 0 ? by.nextInt(6) : 2 + by.nextInt(4);
            int hedges = by.nextInt(10) == 0 ? by.nextInt(5) : 2 + by.nextInt(3);
            int[] along = line == 3 ? new int[] {3, 4, 0, 4, 1} : new int[] {1, 1, 2, 0, 4};
            for (int i = 0; i < winds; i++) {
                parts.add("W" + (line == 0 || line == 4 ? by.nextInt(5) : along[by.nextInt(5)]));
            }
            for (int i = 0; i < balloons; i++) {
                parts.add("B" + cell(line) + by.nextInt(4) + by.nextInt(by.nextInt(3) != 0 ? 2 : 4));
            }
            String cells = "";
            for (int i = 0; i < hedges; i++) {
                char cell = cell(line);
                if (cells.indexOf(cell) < 0) {
                    cells += cell;
                    parts.add("H" + cell + (by.nextBoolean() ? by.nextInt(3) : by.nextInt(10)) + by.nextInt(by.nextBoolean() ? 2 : 4));
                }
            }
            java.util.Collections.shuffle(parts, by);
            parts.forEach(s::append);
            return s.toString();
        }

        String spoiltText() {
            StringBuilder s = new StringBuilder(text());
            int times = by.nextInt(3);
            for (int i = 0; i < times; i++) {
                String letters = "CWBHabtu`0123459:/\u0000\u00ff";
                int at = by.nextInt(s.length() + 1);
                char letter = letters.charAt(by.nextInt(letters.length()));
                if (by.nextBoolean()) {
                    s.insert(at, letter);
                } else if (at < s.length()) {
                    s.setCharAt(at, letter);
                }
            }
            if (by.nextInt(3) == 0) {
                s.setLength(by.nextInt(s.length() + 1));
            }
            return s.toString();
        }

        long row(int n) {
            StringBuilder s = new StringBuilder("0");
            for (int i = 0; i < n; i++) {
                int doing = by.nextInt(12);
                if (doing == 0) {
                    s.append(by.nextInt(10)).append(by.nextInt(10)).append(by.nextInt(10));
                } else if (doing < 4) {
                    s.append("000");
                } else if (doing < 6) {
                    s.append("3").append(by.nextInt(5)).append(by.nextInt(5));
                } else {
                    s.append(new int[] {1, 1, 2, 2, 4, 4}[doing - 6]).append("0").append(by.nextInt(5));
                }
            }
            int wild = by.nextInt(40);
            return wild == 0 ? -1 : wild == 1 ? by.nextLong() : wild == 2 ? Long.parseLong("1" + "0".repeat(3 * n)) : Long.parseLong(s.toString());
        }

        long[] numbers(String call) {
            switch (call) {
                case "write": return new long[] {upTo(255)};
                case "balloon": return new long[] {upTo(4), upTo(7)};
                case "hedge": return new long[] {upTo(3), upTo(3)};
                case "let": case "free": case "comes": case "best": return new long[] {upTo(4)};
                case "right": return new long[] {upTo(4), upTo(4)};
                case "later": return new long[] {upTo(4), upTo(20), upTo(1)};
                case "most": return new long[] {upTo(1)};
                case "judge":
                    int n = upTo(3) + (by.nextInt(9) == 0 ? 0 : 1);
                    return new long[] {n, row(Math.max(0, Math.min(n, 4)))};
                case "find": return new long[] {upTo(19), upTo(9)};
                case "began": return new long[] {upTo(3)};
                case "share": return new long[] {upTo(3), by.nextInt(2)};
                case "rests": return new long[] {upTo(4), upTo(4), upTo(1)};
                case "fails": return new long[] {upTo(4), upTo(3), by.nextInt(9) == 0 ? 0 : 1 + upTo(5), upTo(10), by.nextInt(2)};
                case "seed": return new long[] {by.nextLong()};
                case "years": return new long[] {upTo(30)};
                case "keep": case "again": return new long[] {upTo(1)};
                case "count": return new long[] {upTo(13)};
                default: return new long[0];
            }
        }
    }

    private static int calls = 0;
    private static final List<String> told = new ArrayList<>();

    private static boolean agree(RedBalloons x, Model model, String call, long... numbers) {
        calls++;
        long got = ask(x, call, numbers);
        long want = model.answer(call, numbers);
        told.add(call + Arrays.toString(numbers) + " " + got);
        if (got == want) {
            return true;
        }
        System.out.println("run of " + told.size() + " calls, text of the city last: " + model.text);
        for (int i = Math.max(0, told.size() - 60); i < told.size(); i++) {
            System.out.println("  " + told.get(i));
        }
        System.out.println("due is " + want);
        return false;
    }

    private static boolean tells(RedBalloons x, Model model, String text) {
        boolean agreed = agree(x, model, "wipe");
        for (int i = 0; i < text.length() && agreed; i++) {
            agreed = agree(x, model, "write", text.charAt(i));
        }
        return agreed && agree(x, model, "fault");
    }

    private static boolean letMany(RedBalloons x, Model model, Draw draw) {
        boolean agreed = true;
        for (int b = 0; b < 5 && agreed; b++) {
            if (draw.by.nextInt(3) != 0) {
                agreed = agree(x, model, "let", b);
            }
        }
        return agreed;
    }

    private static boolean run(long seed) {
        told.clear();
        Draw draw = new Draw(seed);
        RedBalloons x = new RedBalloons();
        Model model = new Model();
        boolean agreed = true;
        if (draw.by.nextInt(20) != 0) {
            agreed = tells(x, model, draw.text()) && agree(x, model, "city") && letMany(x, model, draw);
        }
        while (agreed && told.size() < CALLS_A_RUN) {
            int what = draw.by.nextInt(100);
            if (what == 0) {
                agreed = tells(x, model, draw.spoiltText());
            } else if (what == 1 && draw.by.nextInt(3) == 0) {
                agreed = tells(x, model, draw.text()) && agree(x, model, "city") && letMany(x, model, draw);
            } else if (what < 10) {
                agreed = agree(x, model, "hour");
            } else if (what < 16) {
                agreed = agree(x, model, "let", draw.upTo(4));
            } else if (what < 20) {
                agreed = agree(x, model, "free", draw.upTo(4));
            } else {
                String call = NAMES[draw.by.nextInt(NAMES.length)];
                boolean rare = call.equals("city") || call.equals("wipe");
                agreed = rare && draw.by.nextInt(5) != 0 || agree(x, model, call, draw.numbers(call));
            }
        }
        return agreed;
    }

    /** A city, a few acts, and then everything that can be asked of the hours to come. */
    private static boolean askAll(long seed) {
        told.clear();
        Draw draw = new Draw(~seed);
        RedBalloons x = new RedBalloons();
        Model model = new Model();
        boolean agreed = tells(x, model, draw.text()) && agree(x, model, "city") && letMany(x, model, draw);
        String[] doings = {"hour", "hour", "let", "free", "right"};
        int acts = draw.by.nextInt(8);
        for (int i = 0; i < acts && agreed; i++) {
            String call = doings[draw.by.nextInt(doings.length)];
            agreed = agree(x, model, call, draw.numbers(call));
        }
        for (int b = 0; b < model.balloons() && agreed; b++) {
            agreed = agree(x, model, "comes", b) && agree(x, model, "best", b)
                    && agree(x, model, "later", b, draw.upTo(20), 0) && agree(x, model, "later", b, draw.upTo(20), 1);
            for (int other = 0; other < b && agreed; other++) {
                agreed = agree(x, model, "rests", b, other, 0) && agree(x, model, "rests", b, other, 1)
                        && agree(x, model, "rests", other, b, 1);
            }
        }
        for (int h = 0; h < model.told.hedges.size() && agreed; h++) {
            agreed = agree(x, model, "share", h, 1) && agree(x, model, "share", h, 0);
            for (int b = 0; b < model.balloons() && agreed; b++) {
                int n = 1 + draw.by.nextInt(6);
                int tenths = draw.by.nextInt(11);
                agreed = agree(x, model, "fails", b, h, n, tenths, 1) && agree(x, model, "fails", b, h, n, tenths, 0);
            }
        }
        for (int i = 0; i < 8 && agreed; i++) {
            agreed = agree(x, model, "judge", draw.numbers("judge")) && agree(x, model, "seed", draw.by.nextLong())
                    && agree(x, model, "years", draw.upTo(30));
        }
        return agreed && agree(x, model, "most", 0) && agree(x, model, "most", 1) && findsAll(x, model, draw);
    }

    private static boolean findsAll(RedBalloons x, Model model, Draw draw) {
        int start = draw.by.nextInt(20);
        int kind = draw.by.nextInt(4);
        boolean agreed = true;
        for (int n = 0; n < 10 && agreed; n++) {
            int cell = model.cellBehind(start, kind, n);
            if (cell != NONE && draw.by.nextInt(3) == 0) {
                agreed = agree(x, model, "find", cell, n);
            }
        }
        for (int i = 0; i < 4 && agreed; i++) {
            agreed = agree(x, model, "began", i);
        }
        return agreed;
    }

    /** Every call with every mixture of numbers from far outside, at the bounds and within them. */
    private static boolean extremes() {
        long[] far = {Integer.MIN_VALUE, -1, 0, 1, 4, 10, Integer.MAX_VALUE};
        for (String call : NAMES) {
            int numbers = new Draw(0).numbers(call).length;
            told.clear();
            RedBalloons x = new RedBalloons();
            Model model = new Model();
            Draw draw = new Draw(7);
            boolean agreed = tells(x, model, draw.text()) && agree(x, model, "city") && letMany(x, model, draw);
            int mixtures = (int) Math.pow(far.length, numbers);
            for (int i = 0; i < mixtures && agreed; i++) {
                long[] mixed = new long[numbers];
                int left = i;
                for (int j = 0; j < numbers; j++) {
                    mixed[j] = far[left % far.length];
                    left /= far.length;
                }
                agreed = agree(x, model, call, mixed);
            }
            if (!agreed) {
                return false;
            }
        }
        return true;
    }

    public static void main(String[] args) {
        int runs = args.length > 0 ? Integer.parseInt(args[0]) : RUNS;
        long first = args.length > 1 ? Long.parseLong(args[1]) : 0;
        int wrong = extremes() ? 0 : 1;
        for (int i = 0; i < runs && wrong < 3; i++) {
            if (!run(first + i) || !askAll(2 * (first + i)) || !askAll(2 * (first + i) + 1)) {
                System.out.println("run by seed " + (first + i) + " is not as due");
                wrong++;
            }
        }
        System.out.println(calls + " calls, " + (wrong == 0 ? "all as due" : "not all as due"));
        if (wrong != 0) {
            System.exit(1);
        }
    }
}
