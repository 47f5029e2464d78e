import java.util.ArrayList;
import java.util.List;

/**
 * The document's promises a second time, written without a look at the class: lists, rows and bodies of the
 * Java machine's own, whose exceptions tell the FAULTS. ModelTest sets it beside NineSmells.
 */
final class PlainModel {
    private static final long LOST = Long.MIN_VALUE;

    private interface Lent {
        default int stopped(PlainModel m, int number) {
            m.leave(4);
            return number;
        }
    }

    private static class Person implements Lent {
        final int[] s = new int[9];

        int told(PlainModel m) {
            m.leave(1);
            return s[0];
        }

        int lasts(int half) {
            return half;
        }
    }

    private static class Field extends Person {
        @Override
        int told(PlainModel m) {
            m.leave(2);
            return super.told(m) + 100;
        }

        @Override
        int lasts(int half) {
            return 2 * half;
        }

        int toldAsPerson(PlainModel m) {
            return super.told(m);
        }
    }

    private static final class Seal extends Field {
        @Override
        int told(PlainModel m) {
            m.leave(3);
            int field = super.told(m);
            return field + toldAsPerson(m);
        }

        @Override
        int lasts(int half) {
            return 1_000_000;
        }

        @Override
        public int stopped(PlainModel m, int number) {
            m.leave(5);
            return 90;
        }
    }

    private static final class Sheaf {
        int x, y, year, cold, drowned;
        final boolean[] washed = new boolean[9];
    }

    private List<Person> people = new ArrayList<>();
    private List<Sheaf> papers = new ArrayList<>();
    private final Object[] rows = new Object[4];
    private final int[] halves = new int[9];
    private int now, bound, trace, fault;

    private void leave(int body) {
        trace = trace * 31 + body;
    }

    private static int length(Object row) {
        return row instanceof byte[] ? ((byte[]) row).length
            : row instanceof short[] ? ((short[]) row).length : ((int[]) row).length;
    }

    private static long at(Object row, int lane, int i) {
        return lane == 0 ? ((byte[]) row)[i] : lane == 1 ? ((short[]) row)[i] : ((int[]) row)[i];
    }

    /** Runs what the machine may stop; tells the FAULT. */
    private int stopped(Runnable what) {
        fault = 0;
        try {
            what.run();
        } catch (NullPointerException e) {
            fault = 1;
        } catch (ClassCastException | ArrayStoreException e) {
            fault = 2;
        } catch (IndexOutOfBoundsException e) {
            fault = 3;
        } catch (NegativeArraySizeException e) {
            fault = 4;
        }
        return fault;
    }

    private int[] got;

    /** The cells as ints in got, by a cast, a new row and a copy. */
    private int take(int sheet, int lane, int i, int n) {
        return stopped(() -> {
            Object row = rows[sheet];
            Object cast = lane == 0 ? (Object) (byte[]) row : lane == 1 ? (Object) (short[]) row : (int[]) row;
            cast.getClass();
            Object part = lane == 0 ? (Object) new byte[n] : lane == 1 ? (Object) new short[n] : new int[n];
            System.arraycopy(cast, i, part, 0, n);
            got = new int[n];
            for (int k = 0; k < n; k++) {
                got[k] = (int) at(part, lane, k);
            }
        });
    }

    private boolean no(int k, int many) {
        return k < 0 || k >= many;
    }

    private int refuse(int answer) {
        fault = 0;
        return answer;
    }

    int register(int sheet, int lane, int i, int n) {
        if (no(sheet, 4)) {
            return refuse(-1);
        }
        if (no(lane, 3)) {
            return refuse(-2);
        }
        if (take(sheet, lane, i, n) != 0) {
            return -10 - fault;
        }
        StringBuilder text = new StringBuilder();
        for (int code : got) {
            text.append(code < 0 || code > 126 ? '?' : (char) code);
        }
        String all = text.toString();
        if (!all.matches("[pfs][0-9]{9}(;[pfs][0-9]{9}){1,7}")) {
            int good = 0;
            while (good < n && isBeginning(all.substring(0, good + 1))) {
                good++;
            }
            return -100 - good;
        }
        people = new ArrayList<>();
        for (String sign : all.split(";")) {
            Person p = sign.charAt(0) == 'p' ? new Person() : sign.charAt(0) == 'f' ? new Field() : new Seal();
            for (int k = 0; k < 9; k++) {
                p.s[k] = Integer.parseInt(sign.substring(k + 1, k + 2));
            }
            people.add(p);
        }
        papers = new ArrayList<>();
        now = 0;
        bound = 40;
        java.util.Arrays.fill(halves, 5);
        return people.size();
    }

    /** Whether a TEXT can go on from here: with a whole TEXT's codes behind it, it is one. */
    private static boolean isBeginning(String start) {
        String whole = "";
        for (int k = 0; k < 8; k++) {
            whole += (k == 0 ? "" : ";") + "p000000000";
        }
        return start.length() <= whole.length()
            && (start + whole.substring(start.length())).matches("[pfs][0-9]{9}(;[pfs][0-9]{9}){1,7}");
    }

    private int kind(Person p) {
        return p instanceof Seal ? 2 : p instanceof Field ? 1 : 0;
    }

    int ofSign(int x, int what) {
        if (no(x, people.size())) {
            return -1;
        }
        if (what == -1) {
            return kind(people.get(x));
        }
        return no(what, 9) ? -2 : people.get(x).s[what];
    }

    int half(int smell, int v) {
        if (no(smell, 9)) {
            return -1;
        }
        if (no(v - 1, 9)) {
            return -2;
        }
        if (people.isEmpty()) {
            return -3;
        }
        int was = halves[smell];
        halves[smell] = v;
        return was;
    }

    int bound(int v) {
        if (no(v, 1000)) {
            return -2;
        }
        if (people.isEmpty()) {
            return -3;
        }
        int was = bound;
        bound = v;
        return was;
    }

    int year(int v) {
        if (no(v, 100) || v < now) {
            return -2;
        }
        if (people.isEmpty()) {
            return -3;
        }
        int was = now;
        now = v;
        return was;
    }

    private int fade(Person p, int smell, int v, int years) {
        int rest = v;
        for (int y = p.lasts(halves[smell]); y <= years; y += p.lasts(halves[smell])) {
            rest = rest / 2;
        }
        return rest;
    }

    int faded(int x, int smell, int v, int years) {
        if (no(x, people.size()) || no(smell, 9)) {
            return -1;
        }
        return no(v, 1000) || no(years, 100) ? -2 : fade(people.get(x), smell, v, years);
    }

    private boolean notTwo(int x, int y) {
        return no(x, people.size()) || no(y, people.size()) || x == y;
    }

    int paper(int x, int y, int cold) {
        if (notTwo(x, y)) {
            return -1;
        }
        if (no(cold, 10)) {
            return -2;
        }
        if (papers.size() == 8) {
            return -4;
        }
        Sheaf s = new Sheaf();
        s.x = x;
        s.y = y;
        s.year = now;
        s.cold = cold;
        papers.add(s);
        return papers.size() - 1;
    }

    int ofPaper(int p, int what) {
        if (no(p, papers.size())) {
            return -1;
        }
        if (no(what, 6)) {
            return -2;
        }
        Sheaf s = papers.get(p);
        int set = 0;
        for (int k = 8; k >= 0; k--) {
            set = 2 * set + (s.washed[k] ? 1 : 0);
        }
        return new int[] {s.x, s.y, s.year, s.cold, set, s.drowned}[what];
    }

    private int smelt(Sheaf s, int k, int year) {
        int one = fade(people.get(s.x), k, people.get(s.x).s[k] * 4, year - s.year);
        int other = fade(people.get(s.y), k, people.get(s.y).s[k] * 4, year - s.year);
        int left = one + other < s.cold ? 0 : one + other - s.cold;
        return s.washed[k] ? s.drowned : left + s.drowned;
    }

    int smells(int p, int smell, int year) {
        if (no(p, papers.size()) || no(smell, 9)) {
            return -1;
        }
        return year < papers.get(p).year || year > 99 ? -2 : smelt(papers.get(p), smell, year);
    }

    int wash(int p, int smell) {
        if (no(p, papers.size()) || no(smell, 9)) {
            return -1;
        }
        boolean was = papers.get(p).washed[smell];
        papers.get(p).washed[smell] = true;
        return was ? 0 : 1;
    }

    int flood(int v) {
        if (no(v - 1, 9)) {
            return -2;
        }
        papers.forEach(s -> s.drowned += v);
        return papers.size();
    }

    private int farOff(Sheaf s, int x, int y, int year) {
        int sum = 0;
        for (int k = 0; k < 9; k++) {
            int d = smelt(s, k, year) - 4 * people.get(x).s[k] - 4 * people.get(y).s[k];
            sum += d < 0 ? -d : d;
        }
        return sum;
    }

    int far(int p, int x, int y) {
        return no(p, papers.size()) || notTwo(x, y) ? -1 : farOff(papers.get(p), x, y, now);
    }

    private List<int[]> pairs() {
        List<int[]> all = new ArrayList<>();
        for (int x = 0; x < people.size(); x++) {
            for (int y = x + 1; y < people.size(); y++) {
                all.add(new int[] {x, y});
            }
        }
        return all;
    }

    int fits(int p, int what) {
        if (no(p, papers.size())) {
            return -1;
        }
        if (no(what, 3)) {
            return -2;
        }
        Sheaf s = papers.get(p);
        long fit = pairs().stream().filter(q -> farOff(s, q[0], q[1], now) <= bound).count();
        int least = pairs().stream().mapToInt(q -> farOff(s, q[0], q[1], now)).min().getAsInt();
        int[] best = pairs().stream().filter(q -> farOff(s, q[0], q[1], now) == least).findFirst().get();
        return what == 0 ? (int) fit : what == 1 ? best[0] * 10 + best[1] : least;
    }

    private boolean isProved(Sheaf s, int year) {
        int own = farOff(s, s.x, s.y, year);
        long asNear = pairs().stream().filter(q -> farOff(s, q[0], q[1], year) <= own).count();
        return own <= bound && asNear == 1;
    }

    int proved() {
        int set = 0;
        for (int p = papers.size() - 1; p >= 0; p--) {
            set = 2 * set + (isProved(papers.get(p), now) ? 1 : 0);
        }
        return set;
    }

    int again(int p) {
        if (no(p, papers.size())) {
            return -1;
        }
        int year = now;
        while (year < 100 && isProved(papers.get(p), year)) {
            year++;
        }
        return year == 100 ? -9 : year;
    }

    private int away(int[] a, int[] b) {
        int sum = 0;
        for (int k = 0; k < 9; k++) {
            sum += a[k] > b[k] ? a[k] - b[k] : b[k] - a[k];
        }
        return sum;
    }

    int apart(int x, int y) {
        return no(x, people.size()) || no(y, people.size()) ? -1 : away(people.get(x).s, people.get(y).s);
    }

    int twins(int k) {
        if (k < -1) {
            return -1;
        }
        List<int[]> all = pairs();
        all.removeIf(q -> apart(q[0], q[1]) > bound / 8);
        return k == -1 ? all.size() : k >= all.size() ? -9 : all.get(k)[0] * 10 + all.get(k)[1];
    }

    int forged(int x, int y, int sheet, int lane, int i, int n) {
        if (notTwo(x, y) || no(sheet, 4)) {
            return refuse(-1);
        }
        if (no(lane, 3)) {
            return refuse(-2);
        }
        if (take(sheet, lane, i, 2 * n) != 0) {
            return -10 - fault;
        }
        boolean bad = n > 10;
        for (int k = 0; k < n; k++) {
            bad |= no(got[2 * k], 9) || no(got[2 * k + 1] - 1, 9);
        }
        if (bad) {
            return -2;
        }
        for (int few = 0; few <= n; few++) {
            for (int set = 0; set < 1 << n; set++) {
                if (Integer.bitCount(set) == few && 8 * away(stoppedBy(x, set, n), people.get(y).s) <= bound) {
                    return set;
                }
            }
        }
        return -9;
    }

    private int[] stoppedBy(int x, int set, int n) {
        int[] s = people.get(x).s.clone();
        for (int k = 0; k < n; k++) {
            if ((set & 1 << k) != 0) {
                s[got[2 * k]] += got[2 * k + 1];
            }
        }
        return s;
    }

    private int nearing(int x, int y, int h, int k) {
        int a = people.get(x).s[k];
        int b = people.get(y).s[k];
        return b >= a ? a + (b - a) * h / 10 : a - (a - b) * h / 10;
    }

    int near(int x, int y, int h, int smell) {
        if (no(x, people.size()) || no(y, people.size()) || no(smell, 9)) {
            return -1;
        }
        return no(h, 11) ? -2 : nearing(x, y, h, smell);
    }

    int steals(int x, int y) {
        if (notTwo(x, y)) {
            return -1;
        }
        for (int h = 0; h <= 10; h++) {
            int[] s = new int[9];
            for (int k = 0; k < 9; k++) {
                s[k] = nearing(x, y, h, k);
            }
            if (8 * away(s, people.get(y).s) <= bound) {
                return h;
            }
        }
        return -9;
    }

    int fresh(int what) {
        if (no(what, 5)) {
            return -2;
        }
        if (people.isEmpty()) {
            return -3;
        }
        int[] best = null;
        for (int code = 0; code < 8100; code++) {
            int[] of = {0, code / 900, code / 100 % 9, code / 10 % 10, code % 10};
            if (of[1] >= of[2]) {
                continue;
            }
            int[] s = new int[9];
            s[of[1]] = of[3];
            s[of[2]] = of[4];
            of[0] = people.stream().mapToInt(p -> away(p.s, s)).min().getAsInt();
            best = best == null || of[0] > best[0] ? of : best;
        }
        return best[what];
    }

    private int hoursOf(int x, int wind) {
        int many = 0;
        for (int h = 0; h < 10; h++) {
            int sum = 0;
            for (int k = 0; k < 9; k++) {
                sum += Math.abs(fade(people.get(x), k, 8 * people.get(x).s[k], h * (1 + wind)) - got[k]);
            }
            many += sum <= bound ? 1 : 0;
        }
        return many;
    }

    private boolean noDoor(int wind) {
        boolean bad = no(wind, 4);
        for (int left : got) {
            bad |= no(left, 100);
        }
        return bad;
    }

    long odds(int x, int wind, int sheet, int lane, int i, int which) {
        if (no(x, people.size()) || no(sheet, 4) || no(lane, 3)) {
            return refuse(0) + LOST;
        }
        if (take(sheet, lane, i, 9) != 0 || noDoor(wind) || no(which, 2)) {
            return LOST;
        }
        int all = 0;
        for (int y = 0; y < people.size(); y++) {
            all += hoursOf(y, wind);
        }
        if (all == 0) {
            return LOST;
        }
        int common = java.math.BigInteger.valueOf(all).gcd(java.math.BigInteger.valueOf(hoursOf(x, wind))).intValue();
        return (which == 0 ? hoursOf(x, wind) : all) / common;
    }

    int who(int wind, int sheet, int lane, int i) {
        if (no(sheet, 4)) {
            return refuse(-1);
        }
        if (no(lane, 3)) {
            return refuse(-2);
        }
        if (take(sheet, lane, i, 9) != 0) {
            return -10 - fault;
        }
        if (noDoor(wind)) {
            return -2;
        }
        int best = -9;
        for (int x = people.size() - 1; x >= 0; x--) {
            int many = hoursOf(x, wind);
            best = many > 0 && (best < 0 || many >= hoursOf(best, wind)) ? x : best;
        }
        return best;
    }

    int sheet(int k, int lane, int n) {
        if (no(k, 4)) {
            return refuse(-1);
        }
        if (no(lane, 3) || n > 90) {
            return refuse(-2);
        }
        int f = stopped(() -> {
            rows[k] = lane == 0 ? (Object) new byte[n] : lane == 1 ? (Object) new short[n] : new int[n];
        });
        return f == 0 ? 1 : -10 - f;
    }

    int lose(int k) {
        if (no(k, 4)) {
            return -1;
        }
        int had = rows[k] == null ? 0 : 1;
        rows[k] = null;
        return had;
    }

    int put(int k, int i, int v) {
        if (no(k, 4)) {
            return refuse(-1);
        }
        int f = stopped(() -> {
            if (rows[k] instanceof byte[] b) {
                b[i] = (byte) v;
            } else if (rows[k] instanceof short[] s) {
                s[i] = (short) v;
            } else {
                ((int[]) rows[k])[i] = v;
            }
        });
        return f == 0 ? 1 : -10 - f;
    }

    long cell(int k, int i, int lane) {
        if (no(k, 4) || no(lane, 3)) {
            return refuse(0) + LOST;
        }
        long[] answer = new long[1];
        return stopped(() -> answer[0] = at(rows[k], lane, i)) == 0 ? answer[0] : LOST;
    }

    int copy(int k, int i, int other, int j, int n) {
        if (no(k, 4) || no(other, 4)) {
            return refuse(-1);
        }
        int f = stopped(() -> System.arraycopy(rows[k], i, rows[other], j, n));
        return f == 0 ? n : -10 - f;
    }

    int tell(int x) {
        return no(x, people.size()) ? -1 : people.get(x).told(this);
    }

    int stop(int x) {
        return no(x, people.size()) ? -1 : people.get(x).stopped(this, x);
    }

    int as(int x, int kind) {
        if (no(x, people.size())) {
            return refuse(-1);
        }
        if (no(kind, 3)) {
            return refuse(-2);
        }
        Object p = people.get(x);
        int f = stopped(() -> {
            Person taken = kind == 2 ? (Seal) p : kind == 1 ? (Field) p : (Person) p;
            taken.lasts(1);
        });
        return f == 0 ? 1 : -10 - f;
    }

    int trace() {
        return trace;
    }

    int fault() {
        return fault;
    }

    int many(int what) {
        return no(what, 4) ? -2 : new int[] {people.size(), papers.size(), now, bound}[what];
    }

    int cells(int k) {
        return rows[k] == null ? -1 : length(rows[k]);
    }

    int lane(int k) {
        return rows[k] instanceof byte[] ? 0 : rows[k] instanceof short[] ? 1 : 2;
    }
}
