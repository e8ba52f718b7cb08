import java.math.BigInteger;
import java.util.ArrayList;
import java.util.HashSet;
import java.util.List;
import java.util.Random;
import java.util.Set;

/**
 * Long runs of calls drawn by fixed seeds, each answer held against a second program that is
 * written from the document in the slowest and plainest way: lists of units, sets pair by
 * pair, rows of sets counted by what they have lit so far.
 */
public final class ModelTest {
    private static final int RUNS = 500;
    private static final int CALLS = 400;

    private static final class ModelCell {
        int power;
        int rate;
        int rank;
        int gateway;
        int rain;
        int need;
        int ask;
        int handed;
        long came;
        long sent;
        long lost;
        /** The age of each unit that waits, the oldest first. */
        final List<Integer> units = new ArrayList<>();
        /** Whether it was lit, slot by slot since it is there. */
        final List<Boolean> light = new ArrayList<>();

        int powerNow() {
            return (int) Math.floor(power * (1 + rain / 2.0));
        }

        int rateNow() {
            return rain == 2 ? 0 : rain == 1 ? (rate - rate % 2) / 2 : rate;
        }

        int longestGap() {
            int longest = 0;
            for (int from = 0; from < light.size(); from++) {
                int n = 0;
                while (from + n < light.size() && !light.get(from + n)) {
                    n++;
                }
                longest = Math.max(longest, n);
                from += n;
            }
            return longest;
        }

        int timesLit() {
            int n = 0;
            for (boolean l : light) {
                n += l ? 1 : 0;
            }
            return n;
        }
    }

    private static final class Model {
        int beams = 2;
        int limit = 100;
        int latest = 8;
        int hand = 2;
        final List<ModelCell> cells = new ArrayList<>();
        final Set<List<Integer>> forbidden = new HashSet<>();
        final int[] room = {10, 10, 10};
        final boolean[] up = {true, true, true};
        final long[][] rows = new long[4][];
        final int[] widths = new int[4];
        List<Integer> frame = new ArrayList<>();
        int rule;
        int slot;
        int lit = -1;
        int states;
        String number = "";

        static boolean in(long v, long a, long b) {
            return a <= v && v <= b;
        }

        boolean isCell(int c) {
            return in(c, 0, cells.size() - 1);
        }

        List<Integer> members(int set) {
            List<Integer> list = new ArrayList<>();
            for (int c = 0; c < cells.size(); c++) {
                if ((set & (1 << c)) != 0) {
                    list.add(c);
                }
            }
            return list;
        }

        boolean isLegal(int set) {
            List<Integer> list = members(set);
            int power = 0;
            int[] used = new int[3];
            for (int a : list) {
                ModelCell x = cells.get(a);
                power += x.powerNow();
                used[x.gateway]++;
                if (!up[x.gateway] || used[x.gateway] > room[x.gateway] || x.handed > 0) {
                    return false;
                }
                for (int b : list) {
                    if (forbidden.contains(List.of(a, b))) {
                        return false;
                    }
                }
            }
            return list.size() <= beams && power <= limit;
        }

        List<Integer> legalSets() {
            List<Integer> list = new ArrayList<>();
            for (int s = 0; s < 1 << cells.size(); s++) {
                if (isLegal(s)) {
                    list.add(s);
                }
            }
            return list;
        }

        int terms(int b, int li, int la, int h) {
            if (!in(b, 1, 4) || !in(li, 1, 1000) || !in(la, 1, 20) || !in(h, 0, 9)) {
                return -2;
            }
            beams = b;
            limit = li;
            latest = la;
            hand = h;
            return 0;
        }

        int cell(int p, int r, int k, int g) {
            if (!in(p, 1, 100) || !in(r, 1, 1000) || !in(k, 1, 9) || !in(g, 0, 2)) {
                return -2;
            }
            if (cells.size() == 10) {
                return -3;
            }
            ModelCell x = new ModelCell();
            x.power = p;
            x.rate = r;
            x.rank = k;
            x.gateway = g;
            cells.add(x);
            return cells.size() - 1;
        }

        boolean forbid(int a, int b, boolean are) {
            if (!isCell(a) || !isCell(b) || a == b) {
                return false;
            }
            boolean changed = are ? forbidden.add(List.of(a, b)) : forbidden.remove(List.of(a, b));
            if (are) {
                forbidden.add(List.of(b, a));
            } else {
                forbidden.remove(List.of(b, a));
            }
            return changed;
        }

        int rain(int c, int r) {
            if (!isCell(c) || !in(r, 0, 2)) {
                return -2;
            }
            int was = cells.get(c).rain;
            cells.get(c).rain = r;
            return was;
        }

        int gateway(int g, int r, boolean u) {
            if (!in(g, 0, 2) || !in(r, 0, 10)) {
                return -2;
            }
            room[g] = r;
            up[g] = u;
            return 0;
        }

        int swap(int c, int g) {
            if (!isCell(c) || !in(g, 0, 2) || cells.get(c).gateway == g) {
                return -2;
            }
            if (cells.get(c).handed > 0) {
                return -7;
            }
            cells.get(c).gateway = g;
            cells.get(c).handed = hand;
            return 0;
        }

        int check(int p, long most) {
            if (!in(p, 0, 3)) {
                return -2;
            }
            if (rows[p] == null) {
                return -5;
            }
            if (rows[p].length < cells.size()) {
                return -6;
            }
            for (int c = 0; c < cells.size(); c++) {
                if (!in(rows[p][c], 0, most)) {
                    return -4;
                }
            }
            return 0;
        }

        int needs(int p) {
            int bad = check(p, 9);
            int sum = 0;
            for (int c = 0; bad == 0 && c < cells.size(); c++) {
                cells.get(c).need = (int) rows[p][c];
                sum += cells.get(c).need;
            }
            return bad == 0 ? sum : bad;
        }

        int asks(int p) {
            int bad = check(p, 1000);
            int sum = 0;
            for (int c = 0; bad == 0 && c < cells.size(); c++) {
                cells.get(c).ask = (int) rows[p][c];
                sum += cells.get(c).ask;
            }
            return bad == 0 ? sum : bad;
        }

        int legal(int s) {
            if (!in(s, 0, (1 << cells.size()) - 1)) {
                return -2;
            }
            return isLegal(s) ? 1 : 0;
        }

        int fewest() {
            List<Integer> first = new ArrayList<>();
            int sum = 0;
            for (ModelCell x : cells) {
                first.add(x.need);
                sum += x.need;
            }
            states = 0;
            if (sum == 0) {
                frame = new ArrayList<>();
                return 0;
            }
            List<Integer> legal = legalSets();
            for (int c = 0; c < cells.size(); c++) {
                boolean some = false;
                for (int s : legal) {
                    some |= members(s).contains(c);
                }
                if (cells.get(c).need > 0 && !some) {
                    return -1;
                }
            }
            return search(first, legal);
        }

        int search(List<Integer> first, List<Integer> legal) {
            List<List<Integer>> queue = new ArrayList<>();
            List<List<Integer>> rowsTo = new ArrayList<>();
            Set<List<Integer>> seen = new HashSet<>();
            queue.add(first);
            seen.add(first);
            rowsTo.add(new ArrayList<>());
            for (int at = 0; at < queue.size(); at++) {
                for (int s : widest(queue.get(at), legal)) {
                    List<Integer> next = new ArrayList<>(queue.get(at));
                    boolean end = true;
                    for (int c = 0; c < next.size(); c++) {
                        next.set(c, Math.max(0, next.get(c) - (s >> c & 1)));
                        end &= next.get(c) == 0;
                    }
                    List<Integer> row = new ArrayList<>(rowsTo.get(at));
                    row.add(s);
                    if (end) {
                        states = seen.size();
                        frame = row;
                        return row.size();
                    }
                    if (seen.add(next)) {
                        if (seen.size() > 5000) {
                            states = 5000;
                            return -4;
                        }
                        queue.add(next);
                        rowsTo.add(row);
                    }
                }
            }
            throw new IllegalStateException("no end");
        }

        List<Integer> widest(List<Integer> state, List<Integer> legal) {
            List<Integer> able = new ArrayList<>();
            for (int s : legal) {
                boolean ok = true;
                for (int c : members(s)) {
                    ok &= state.get(c) > 0;
                }
                if (ok) {
                    able.add(s);
                }
            }
            List<Integer> out = new ArrayList<>();
            for (int s : able) {
                boolean part = false;
                for (int t : able) {
                    part |= s != t && (s | t) == t;
                }
                if (!part) {
                    out.add(s);
                }
            }
            return out;
        }

        int frameOf(int p) {
            if (!in(p, 0, 3)) {
                return -2;
            }
            if (rows[p] == null) {
                return -5;
            }
            if (rows[p].length == 0) {
                return -8;
            }
            List<Integer> f = new ArrayList<>();
            for (int i = 0; i < rows[p].length && i < 12; i++) {
                if (!in(rows[p][i], 0, (1L << cells.size()) - 1)) {
                    return -4;
                }
                f.add((int) rows[p][i]);
            }
            frame = f;
            return f.size();
        }

        long proof(int p) {
            int bad = check(p, 1000000);
            if (bad != 0) {
                return bad;
            }
            long sum = 0;
            for (int c = 0; c < cells.size(); c++) {
                sum += rows[p][c] * cells.get(c).need;
            }
            long best = 0;
            for (int s : legalSets()) {
                long v = 0;
                for (int c : members(s)) {
                    v += rows[p][c];
                }
                best = Math.max(best, v);
            }
            if (best == 0) {
                return sum == 0 ? 0 : -1;
            }
            return sum / best + (sum % best == 0 ? 0 : 1);
        }

        int ways(int slots) {
            if (!in(slots, 0, 24)) {
                return -2;
            }
            int all = 1 << cells.size();
            List<Integer> legal = legalSets();
            BigInteger[] now = new BigInteger[all];
            now[0] = BigInteger.ONE;
            for (int k = 0; k < slots; k++) {
                BigInteger[] then = new BigInteger[all];
                for (int m = 0; m < all; m++) {
                    for (int j = 0; now[m] != null && j < legal.size(); j++) {
                        int t = m | legal.get(j);
                        then[t] = then[t] == null ? now[m] : then[t].add(now[m]);
                    }
                }
                now = then;
            }
            number = now[all - 1] == null ? "0" : now[all - 1].toString();
            return number.length();
        }

        int digit(int i) {
            if (i < 0) {
                return -2;
            }
            return i >= number.length() ? 0 : number.charAt(number.length() - 1 - i) - '0';
        }

        int rule(int r) {
            if (!in(r, 0, 1)) {
                return -2;
            }
            int was = rule;
            rule = r;
            return was;
        }

        int go(int n) {
            if (!in(n, 1, 200)) {
                return -2;
            }
            if (slot + n > 20000) {
                return -3;
            }
            for (int k = 0; k < n; k++) {
                pass();
            }
            return slot;
        }

        void pass() {
            for (ModelCell x : cells) {
                for (int k = 0; k < x.ask; k++) {
                    x.units.add(0);
                }
                x.came += x.ask;
            }
            lit = rule == 0 ? byFrame() : byWeight();
            for (int c = 0; c < cells.size(); c++) {
                ModelCell x = cells.get(c);
                boolean is = (lit >> c & 1) == 1;
                x.light.add(is);
                int n = is ? Math.min(x.rateNow(), x.units.size()) : 0;
                x.units.subList(0, n).clear();
                x.sent += n;
                int gone = 0;
                for (int i = 0; i < x.units.size(); i++) {
                    x.units.set(i, x.units.get(i) + 1);
                    gone += x.units.get(i) >= latest ? 1 : 0;
                }
                x.units.subList(0, gone).clear();
                x.lost += gone;
                x.handed -= x.handed > 0 ? 1 : 0;
            }
            slot++;
        }

        int byFrame() {
            int set = frame.isEmpty() ? 0 : frame.get(slot % frame.size());
            while (!isLegal(set)) {
                set -= Integer.highestOneBit(set);
            }
            return set;
        }

        int byWeight() {
            int best = -1;
            int which = 0;
            for (int s : legalSets()) {
                int w = 0;
                for (int c : members(s)) {
                    ModelCell x = cells.get(c);
                    w += x.rank * Math.min(x.units.size(), x.rateNow());
                }
                if (w > best) {
                    best = w;
                    which = s;
                }
            }
            return which;
        }

        int cellOf(int c, int what) {
            if (!isCell(c) || !in(what, 0, 12)) {
                return -2;
            }
            ModelCell x = cells.get(c);
            int others = 0;
            for (int b = 0; b < cells.size(); b++) {
                others += forbidden.contains(List.of(c, b)) ? 1 << b : 0;
            }
            int[] all = {x.powerNow(), x.rateNow(), x.gateway, x.handed, x.need, x.ask, x.units.size(),
                x.units.isEmpty() ? -1 : x.units.get(0), x.longestGap(), x.timesLit(), others, x.rain, x.rank};
            return all[what];
        }

        long units(int c, int what) {
            if (!isCell(c) || !in(what, 0, 2)) {
                return -2;
            }
            ModelCell x = cells.get(c);
            return what == 0 ? x.came : what == 1 ? x.sent : x.lost;
        }

        int count(int what) {
            int places = 0;
            for (long[] r : rows) {
                places += r == null ? 0 : 1;
            }
            int[] all = {cells.size(), beams, limit, latest, hand, slot, rule, frame.size(), states, places};
            return in(what, 0, 9) ? all[what] : -1;
        }

        int gatewayOf(int g, int what) {
            if (!in(g, 0, 2) || !in(what, 0, 2)) {
                return -2;
            }
            int n = 0;
            for (ModelCell x : cells) {
                n += x.gateway == g ? 1 : 0;
            }
            return what == 0 ? room[g] : what == 1 ? (up[g] ? 1 : 0) : n;
        }

        int row(int p, int w, int n) {
            if (!in(p, 0, 3) || !in(w, 0, 3) || n > 60) {
                return -2;
            }
            if (n < 0) {
                return -3;
            }
            rows[p] = new long[n];
            widths[p] = w;
            return 0;
        }

        boolean tear(int p) {
            boolean had = in(p, 0, 3) && rows[p] != null;
            if (had) {
                rows[p] = null;
            }
            return had;
        }

        int write(int p, int i, long v) {
            if (!in(p, 0, 3)) {
                return -2;
            }
            if (rows[p] == null) {
                return -5;
            }
            if (!in(i, 0, rows[p].length - 1)) {
                return -6;
            }
            int away = 64 - (8 << widths[p]);
            rows[p][i] = v << away >> away;
            return 0;
        }

        int paste(int p, int i, int to, int k, int n) {
            if (!in(p, 0, 3) || !in(to, 0, 3)) {
                return -2;
            }
            if (rows[p] == null || rows[to] == null) {
                return -5;
            }
            if (widths[p] != widths[to]) {
                return -7;
            }
            if (i < 0 || k < 0 || n < 0 || (long) i + n > rows[p].length || (long) k + n > rows[to].length) {
                return -6;
            }
            long[] were = rows[p].clone();
            for (int j = 0; j < n; j++) {
                rows[to][k + j] = were[i + j];
            }
            return 0;
        }
    }

    private static final int[] ODD = {-1, -2, Integer.MIN_VALUE, Integer.MAX_VALUE, 1 << 10, 1 << 16, 31, 32, -1024};

    private final Random random;
    private final HopBeams x = new HopBeams();
    private final Model m = new Model();
    private final int run;
    private final int style;
    private int wrong;
    private final List<String> log = new ArrayList<>();

    private ModelTest(int run) {
        this.run = run;
        this.random = new Random(7919L * run + 1);
        this.style = random.nextInt(4);
    }

    /** Mostly a .. b, now and then one beside it or a far one. */
    private int pick(int a, int b) {
        int k = random.nextInt(40);
        if (k == 0) {
            return ODD[random.nextInt(ODD.length)];
        }
        if (k == 1) {
            return random.nextBoolean() ? a - 1 : b + 1;
        }
        return a + random.nextInt(b - a + 1);
    }

    private void same(String call, long got, long want) {
        log.add(call + " = " + got);
        if (got != want) {
            wrong++;
            System.out.println("run " + run + ", call " + log.size() + ": " + call + " answered " + got
                    + ", the model " + want);
        }
    }

    private int aCell() {
        return pick(0, Math.max(0, m.cells.size() - 1));
    }

    private void fillPlace(int p, int most, boolean forCells) {
        int width = most > 32767 ? 2 : most > 127 ? 1 : random.nextInt(3);
        int n = forCells ? m.cells.size() + random.nextInt(2) : 1 + random.nextInt(14);
        if (random.nextInt(30) == 0) {
            n = Math.max(0, m.cells.size() - 1);
        }
        same("row(" + p + "," + width + "," + n + ")", x.row(p, width, n), m.row(p, width, n));
        for (int i = 0; i < n; i++) {
            long v = random.nextInt(3) == 0 ? 0 : random.nextInt(most + 1);
            if (random.nextInt(120) == 0) {
                v = pick(0, most) + (random.nextBoolean() ? 0 : 1L << 8 * (1 + random.nextInt(6)));
            }
            same("write(" + p + "," + i + "," + v + ")", x.write(p, i, v), m.write(p, i, v));
        }
    }

    private void change() {
        int p = pick(0, 3);
        switch (random.nextInt(16)) {
            case 0: {
                int b = pick(1, 4);
                int li = random.nextInt(3) == 0 ? pick(1, 1000) : 60 + random.nextInt(200);
                int la = random.nextBoolean() ? pick(1, 20) : 1 + random.nextInt(5);
                int h = pick(0, 9);
                same("terms(" + b + "," + li + "," + la + "," + h + ")", x.terms(b, li, la, h), m.terms(b, li, la, h));
                break;
            }
            case 1: {
                int a = pick(1, 100);
                int r = random.nextBoolean() ? pick(1, 1000) : 1 + random.nextInt(30);
                int k = pick(1, 9);
                int g = pick(0, 2);
                if (style == 0 && m.cells.size() > 4) {
                    break;
                }
                same("cell(" + a + "," + r + "," + k + "," + g + ")", x.cell(a, r, k, g), m.cell(a, r, k, g));
                break;
            }
            case 2: {
                int a = aCell();
                int b = aCell();
                boolean are = random.nextInt(3) > 0;
                same("forbid(" + a + "," + b + "," + are + ")", x.forbid(a, b, are) ? 1 : 0, m.forbid(a, b, are) ? 1 : 0);
                break;
            }
            case 3: {
                int a = aCell();
                int r = random.nextBoolean() ? 0 : pick(0, 2);
                same("rain(" + a + "," + r + ")", x.rain(a, r), m.rain(a, r));
                break;
            }
            case 4: {
                int g = pick(0, 2);
                int r = random.nextBoolean() ? pick(0, 10) : 2;
                boolean up = random.nextInt(5) > 0;
                same("gateway(" + g + "," + r + "," + up + ")", x.gateway(g, r, up), m.gateway(g, r, up));
                break;
            }
            case 5: {
                int a = aCell();
                int g = pick(0, 2);
                same("swap(" + a + "," + g + ")", x.swap(a, g), m.swap(a, g));
                break;
            }
            case 6:
            case 7:
                if (Model.in(p, 0, 3)) {
                    fillPlace(p, style == 1 ? 2 : 9, true);
                }
                same("needs(" + p + ")", x.needs(p), m.needs(p));
                break;
            case 8:
                if (Model.in(p, 0, 3)) {
                    fillPlace(p, random.nextBoolean() ? 30 : 1000, true);
                }
                same("asks(" + p + ")", x.asks(p), m.asks(p));
                break;
            case 9:
                if (Model.in(p, 0, 3)) {
                    fillPlace(p, (1 << m.cells.size()) - 1, false);
                }
                same("frameOf(" + p + ")", x.frameOf(p), m.frameOf(p));
                break;
            case 10:
                if (Model.in(p, 0, 3)) {
                    fillPlace(p, random.nextBoolean() ? 5 : 1000000, true);
                }
                same("proof(" + p + ")", x.proof(p), m.proof(p));
                break;
            case 11: {
                int r = pick(0, 1);
                same("rule(" + r + ")", x.rule(r), m.rule(r));
                break;
            }
            case 12: {
                int w = pick(0, 3);
                int n = pick(0, 60);
                same("row(" + p + "," + w + "," + n + ")", x.row(p, w, n), m.row(p, w, n));
                break;
            }
            case 13:
                if (random.nextInt(4) == 0) {
                    same("tear(" + p + ")", x.tear(p) ? 1 : 0, m.tear(p) ? 1 : 0);
                }
                break;
            case 14: {
                int i = pick(0, 12);
                long v = random.nextInt(4) == 0 ? random.nextLong() : pick(0, 300);
                same("write(" + p + "," + i + "," + v + ")", x.write(p, i, v), m.write(p, i, v));
                break;
            }
            default: {
                int to = pick(0, 3);
                int i = pick(0, 8);
                int k = pick(0, 8);
                int n = pick(0, 8);
                same("paste(" + p + "," + i + "," + to + "," + k + "," + n + ")", x.paste(p, i, to, k, n), m.paste(p, i, to, k, n));
            }
        }
    }

    private void ask() {
        int p = pick(0, 3);
        switch (random.nextInt(14)) {
            case 0: {
                int s = pick(0, (1 << m.cells.size()) - 1);
                same("legal(" + s + ")", x.legal(s), m.legal(s));
                break;
            }
            case 1:
                same("sets()", x.sets(), m.legalSets().size());
                break;
            case 2: {
                same("fewest()", x.fewest(), m.fewest());
                same("count(8)", x.count(8), m.count(8));
                for (int i = 0; i <= m.frame.size(); i++) {
                    same("frame(" + i + ")", x.frame(i), i < m.frame.size() ? m.frame.get(i) : -1);
                }
                break;
            }
            case 3: {
                int i = pick(0, 20);
                same("frame(" + i + ")", x.frame(i), Model.in(i, 0, m.frame.size() - 1) ? m.frame.get(i) : -1);
                break;
            }
            case 4:
                if (m.cells.size() < 8 || random.nextInt(8) == 0) {
                    int n = pick(0, 24);
                    same("ways(" + n + ")", x.ways(n), m.ways(n));
                    for (int i = 0; i < 75; i += 1 + random.nextInt(6)) {
                        same("digit(" + i + ")", x.digit(i), m.digit(i));
                    }
                }
                break;
            case 5: {
                int i = pick(0, 70);
                same("digit(" + i + ")", x.digit(i), m.digit(i));
                break;
            }
            case 6:
            case 7:
            case 8: {
                int n = random.nextInt(10) == 0 && style != 2 ? pick(1, 200) : 1 + random.nextInt(4);
                same("go(" + n + ")", x.go(n), m.go(n));
                same("lit()", x.lit(), m.lit);
                for (int c = 0; c < m.cells.size(); c++) {
                    int what = 6 + random.nextInt(4);
                    same("cellOf(" + c + "," + what + ")", x.cellOf(c, what), m.cellOf(c, what));
                }
                break;
            }
            case 9: {
                int a = aCell();
                int what = pick(0, 12);
                same("cellOf(" + a + "," + what + ")", x.cellOf(a, what), m.cellOf(a, what));
                break;
            }
            case 10: {
                int a = aCell();
                int what = pick(0, 2);
                same("units(" + a + "," + what + ")", x.units(a, what), m.units(a, what));
                break;
            }
            case 11: {
                int what = pick(0, 9);
                same("count(" + what + ")", x.count(what), m.count(what));
                break;
            }
            case 12: {
                int g = pick(0, 2);
                int what = pick(0, 2);
                same("gatewayOf(" + g + "," + what + ")", x.gatewayOf(g, what), m.gatewayOf(g, what));
                break;
            }
            default:
                same("proof(" + p + ")", x.proof(p), m.proof(p));
        }
    }

    private int wholeRun() {
        for (int k = random.nextInt(7); k > 0; k--) {
            int power = 1 + random.nextInt(60);
            int rate = 1 + random.nextInt(40);
            int rank = 1 + random.nextInt(9);
            int g = random.nextInt(3);
            same("cell(..)", x.cell(power, rate, rank, g), m.cell(power, rate, rank, g));
        }
        while (log.size() < CALLS && wrong == 0) {
            if (random.nextBoolean()) {
                change();
            } else {
                ask();
            }
        }
        if (wrong > 0) {
            for (String call : log) {
                System.out.println("    " + call);
            }
        }
        return wrong;
    }

    /** A land at the edge of FULL, where a random one hardly ever comes to. */
    private int edge(int[] needs, int... pairs) {
        for (int c = 0; c < needs.length; c++) {
            same("cell(1,1,1,0)", x.cell(1, 1, 1, 0), m.cell(1, 1, 1, 0));
        }
        for (int i = 0; i < pairs.length; i += 2) {
            int a = pairs[i];
            int b = pairs[i + 1];
            same("forbid(" + a + "," + b + ",true)", x.forbid(a, b, true) ? 1 : 0, m.forbid(a, b, true) ? 1 : 0);
        }
        same("row", x.row(0, 0, needs.length), m.row(0, 0, needs.length));
        for (int c = 0; c < needs.length; c++) {
            same("write", x.write(0, c, needs[c]), m.write(0, c, needs[c]));
        }
        same("needs(0)", x.needs(0), m.needs(0));
        same("fewest()", x.fewest(), m.fewest());
        same("count(8)", x.count(8), m.count(8));
        for (int i = 0; i <= m.frame.size(); i++) {
            same("frame(" + i + ")", x.frame(i), i < m.frame.size() ? m.frame.get(i) : -1);
        }
        return wrong;
    }

    public static void main(String[] args) {
        int wrong = new ModelTest(-1).edge(new int[] {8, 8, 6, 6, 9}, 1, 0, 4, 0, 4, 1, 4, 2);
        wrong += new ModelTest(-2).edge(new int[] {6, 8, 7, 5, 6}, 1, 0, 4, 0, 4, 2);
        for (int run = 0; run < RUNS && wrong == 0; run++) {
            wrong += new ModelTest(run).wholeRun();
        }
        System.out.println(wrong == 0 ? "the class and the model answer alike" : "they answer unlike");
        if (wrong != 0) {
            System.exit(1);
        }
    }
}
