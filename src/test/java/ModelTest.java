import java.math.BigInteger;
import java.nio.charset.StandardCharsets;
import java.util.ArrayDeque;
import java.util.ArrayList;
import java.util.Arrays;
import java.util.Comparator;
import java.util.Deque;
import java.util.List;
import java.util.Random;
import java.util.regex.Matcher;
import java.util.regex.Pattern;

/** Runs of calls with fixed seeds, on the class and on a slow model that is written in another way. */
public final class ModelTest {
    private static final int RUNS = 2500;
    private static final int CALLS = 512;
    private static final int BAD = -1, STATE = -2, FULL = -3, NONE = -9, NO = -1000000;

    public static void main(String[] args) {
        long calls = 0;
        for (int seed = 1; seed <= RUNS; seed++) {
            List<String> log = new ArrayList<>();
            String wrong = new Run(seed, log).play();
            calls += log.size();
            if (wrong != null) {
                System.out.println("seed " + seed + ", behind:");
                for (String call : log) {
                    System.out.println("  " + call);
                }
                System.out.println(wrong);
                System.exit(1);
            }
        }
        System.out.println(calls + " calls answered as the model does");
    }

    private static final class Run {
        private final Random random;
        private final List<String> log;
        private final SleeveSlips real = new SleeveSlips();
        private final Model model = new Model();
        private String wrong;

        Run(int seed, List<String> log) {
            this.random = new Random(seed);
            this.log = log;
        }

        String play() {
            while (log.size() < CALLS && wrong == null) {
                int dice = random.nextInt(100);
                if (log.isEmpty() || dice < 1) {
                    tell(random.nextInt(4) == 0 ? spoilt(anyTown()) : anyTown());
                } else {
                    oneCall(random.nextInt(27));
                }
            }
            return wrong;
        }

        private void check(String call, long got, long want) {
            log.add(call + " -> " + got);
            if (got != want && wrong == null) {
                wrong = call + " answered " + got + ", the model " + want;
            }
        }

        private void tell(String text) {
            byte[] bytes = text.getBytes(StandardCharsets.ISO_8859_1);
            for (int at = 0; at < bytes.length;) {
                int n = Math.min(bytes.length - at, 1 + random.nextInt(8));
                long v = random.nextLong();
                for (int i = 0; i < n; i++) {
                    v = v << 8 | bytes[at + i] & 0xff;
                }
                at += n;
                check("type(" + v + ", " + n + ")", real.type(v, n), model.type(v, n));
            }
            check("town()", real.town(), model.town());
            if (model.text.length() > 0) {
                check("clear()", real.clear(), model.clear());
            }
        }

        private int upTo(int high) {
            return random.nextInt(high + 1);
        }

        private String anyTown() {
            StringBuilder text = new StringBuilder();
            int people = 1 + random.nextInt(4);
            int asks = random.nextInt(9);
            int hangs = asks < 2 ? 0 : random.nextInt(9);
            for (int i = 0; i < people; i++) {
                text.append("person ").append(1 + upTo(4)).append(' ').append(1 + upTo(2)).append(' ').append(upTo(9)).append(';');
            }
            int span = 1 + random.nextInt(9);
            boolean alike = random.nextInt(3) == 0;
            for (int i = 0; i < asks; i++) {
                int d = random.nextInt(span);
                text.append("ask ").append(random.nextInt(people)).append(' ').append(d).append(' ').append(1 + upTo(random.nextBoolean() ? 8 : 2));
                text.append(' ').append(alike ? 1 + upTo(2) : 1 + upTo(98)).append(' ').append(d + random.nextInt(10 - d)).append(';');
            }
            for (int i = 0; i < hangs; i++) {
                int a = random.nextInt(asks);
                int b = random.nextInt(asks - 1);
                text.append("hangs ").append(a).append(' ').append(b >= a ? b + 1 : b).append(';');
            }
            return text.toString();
        }

        private String spoilt(String text) {
            StringBuilder out = new StringBuilder(text);
            String pieces = "; 0129apersonkhgP\n\u00ff-";
            for (int i = 1 + random.nextInt(2); i > 0; i--) {
                int at = random.nextInt(out.length());
                char c = pieces.charAt(random.nextInt(pieces.length()));
                switch (random.nextInt(4)) {
                    case 0: out.setCharAt(at, c); break;
                    case 1: out.insert(at, c); break;
                    case 2: out.deleteCharAt(at); break;
                    default: out.setLength(at + 1); break;
                }
            }
            return out.toString();
        }

        /** Mostly 0 .. high, now and then something else. */
        private int number(int high) {
            int dice = random.nextInt(40);
            if (dice == 0) {
                return random.nextInt();
            }
            return dice == 1 ? -1 : dice == 2 ? high + 1 : upTo(high);
        }

        private void oneCall(int which) {
            int a = number(7);
            int p = number(3);
            int two = number(1);
            switch (which) {
                case 0: { int n = number(8); long v = random.nextLong(); check("type(" + v + ", " + n + ")", real.type(v, n), model.type(v, n)); break; }
                case 1: if (upTo(3) == 0) check("clear()", real.clear(), model.clear()); break;
                case 2: { int w = number(3); check("person(" + p + ", " + w + ")", real.person(p, w), model.person(p, w)); break; }
                case 3: { int w = number(7); check("asking(" + a + ", " + w + ")", real.asking(a, w), model.asking(a, w)); break; }
                case 4: { int i = number(5); check("slip(" + p + ", " + i + ")", real.slip(p, i), model.slip(p, i)); break; }
                case 5: case 6: case 7: check("promise(" + a + ")", real.promise(a), model.promise(a)); break;
                case 8: check("letOff(" + a + ")", real.letOff(a), model.letOff(a)); break;
                case 9: check("breaks(" + a + ")", real.breaks(a), model.breaks(a)); break;
                case 10: case 11: check("hand(" + a + ", " + p + ")", real.hand(a, p), model.hand(a, p)); break;
                case 12: check("undo()", real.undo(), model.undo()); break;
                case 13: if (upTo(2) == 0) check("day()", real.day(), model.day()); break;
                case 14: { int w = number(4); check("now(" + w + ")", real.now(w), model.now(w)); break; }
                case 15: if (upTo(3) == 0) check("take(" + p + ", " + two + ")", real.take(p, two), model.take(p, two)); break;
                case 16: if (upTo(3) == 0) check("bound(" + p + ", " + two + ")", real.bound(p, two), model.bound(p, two)); break;
                case 17: { int j = number(2), t = number(random.nextBoolean() ? 10 : 4), w = number(random.nextBoolean() ? 99 : 3), d = number(3); check("sort(" + j + ", " + t + ", " + w + ", " + d + ")", real.sort(j, t, w, d), model.sort(j, t, w, d)); break; }
                case 18: { int n = number(random.nextInt(3) == 0 ? 6 : 4); check("expected(" + p + ", " + n + ", " + two + ")", real.expected(p, n, two), model.expected(p, n, two)); break; }
                case 19: { int j = number(2), n = number(6), f = number(5); check("wise(" + j + ", " + n + ", " + f + ")", real.wise(j, n, f), model.wise(j, n, f)); break; }
                case 20: check("ring()", real.ring(), model.ring()); break;
                case 21: check("order(" + a + ")", real.order(a), model.order(a)); break;
                case 22: if (upTo(3) == 0) check("fewest(" + two + ")", real.fewest(two), model.fewest(two)); break;
                case 23: { int u = number(random.nextBoolean() ? 99 : 20), d = number(9); check("great(" + u + ", " + d + ", " + two + ")", real.great(u, d, two), model.great(u, d, two)); break; }
                case 24: { int k = number(5); check("rate(" + k + ", " + p + ")", real.rate(k, p), model.rate(k, p)); check("trace()", real.trace(), model.trace); break; }
                case 25: if (random.nextBoolean()) check("keep(" + two + ")", real.keep(two), model.keep(two)); else check("back(" + two + ")", real.back(two), model.back(two)); break;
                default: { int w = number(4); check("count(" + w + ")", real.count(w), model.count(w)); break; }
            }
        }
    }

    private static final class Ask {
        int whom, day, work, worth, due;
    }

    /** A whole copy is kept for each deed and each image. */
    private static final class State {
        int day, won, lost;
        String became = "";
        List<List<int[]>> sleeves = new ArrayList<>();
        Deque<State> undo = new ArrayDeque<>();

        State copy(boolean withUndo) {
            State s = new State();
            s.day = day;
            s.won = won;
            s.lost = lost;
            s.became = became;
            for (List<int[]> sleeve : sleeves) {
                List<int[]> row = new ArrayList<>();
                for (int[] slip : sleeve) {
                    row.add(slip.clone());
                }
                s.sleeves.add(row);
            }
            if (withUndo) {
                s.undo.addAll(undo);
            }
            return s;
        }

        void mark(int a, char what) {
            became = became.substring(0, a) + what + became.substring(a + 1);
        }

        int[] find(int a) {
            for (int p = 0; p < sleeves.size(); p++) {
                for (int[] slip : sleeves.get(p)) {
                    if (slip[0] == a) {
                        return new int[] {p, slip[1]};
                    }
                }
            }
            return null;
        }

        void remove(int a) {
            for (List<int[]> sleeve : sleeves) {
                sleeve.removeIf(slip -> slip[0] == a);
            }
        }
    }

    private static final class Fault extends Exception {
        private static final long serialVersionUID = 1;
        final int place;

        Fault(int place) {
            this.place = place;
        }
    }

    private static final class Model {
        final StringBuilder text = new StringBuilder();
        List<int[]> people = new ArrayList<>();
        List<Ask> asks = new ArrayList<>();
        List<int[]> hangs = new ArrayList<>();
        State state = new State();
        final State[] images = new State[2];
        final int[][] sorts = new int[3][];
        long trace;

        int type(long v, int n) {
            if (n < 1 || n > 8) return BAD;
            if (text.length() + n > 300) return FULL;
            String bytes = "";
            for (int i = 0; i < n; i++) {
                bytes = (char) (v & 255) + bytes;
                v >>= 8;
            }
            text.append(bytes);
            return text.length();
        }

        int clear() {
            int had = text.length();
            text.setLength(0);
            return had;
        }

        // ---- the text: cut into tokens first, then matched item by item

        private List<String> words;
        private List<Integer> places;
        private int at;

        private void cut() {
            words = new ArrayList<>();
            places = new ArrayList<>();
            Matcher m = Pattern.compile("[a-z]+|[0-9]+|[^ ]").matcher(text.toString().replace('\n', '\u0001'));
            while (m.find()) {
                words.add(m.group());
                places.add(m.start());
            }
            at = 0;
        }

        private Fault fault() {
            return new Fault(at < places.size() ? places.get(at) : text.length());
        }

        private int want(int low, int high) throws Fault {
            if (at >= words.size() || !words.get(at).matches("0|[1-9][0-9]?")) throw fault();
            int n = Integer.parseInt(words.get(at));
            if (n < low || n > high) throw fault();
            at++;
            return n;
        }

        private void want(String word) throws Fault {
            if (at >= words.size() || !words.get(at).equals(word)) throw fault();
            at++;
        }

        int town() {
            List<int[]> folk = new ArrayList<>();
            List<Ask> asked = new ArrayList<>();
            List<int[]> hung = new ArrayList<>();
            cut();
            int items = 0;
            try {
                while (at < words.size()) {
                    readItem(folk, asked, hung);
                    items++;
                }
            } catch (Fault f) {
                return -10 - f.place;
            }
            people = folk;
            asks = asked;
            hangs = hung;
            text.setLength(0);
            Arrays.fill(images, null);
            state = new State();
            state.became = "o".repeat(asks.size());
            for (int i = 0; i < people.size(); i++) {
                state.sleeves.add(new ArrayList<>());
            }
            return items;
        }

        private void readItem(List<int[]> folk, List<Ask> asked, List<int[]> hung) throws Fault {
            String word = words.get(at);
            if (word.equals("person") && folk.size() < 4) {
                at++;
                folk.add(new int[] {want(1, 5), want(1, 3), want(0, 9)});
            } else if (word.equals("ask") && asked.size() < 8) {
                at++;
                Ask a = new Ask();
                a.whom = want(0, folk.size() - 1);
                a.day = want(0, 9);
                a.work = want(1, 9);
                a.worth = want(1, 99);
                a.due = want(a.day, 9);
                asked.add(a);
            } else if (word.equals("hangs") && hung.size() < 8) {
                at++;
                int a = want(0, asked.size() - 1);
                int b = want(0, asked.size() - 1);
                if (a == b) {
                    at--;
                    throw fault();
                }
                hung.add(new int[] {a, b});
            } else {
                throw fault();
            }
            want(";");
        }

        // ---- days

        private boolean noPerson(int p) {
            return p < 0 || p >= people.size();
        }

        private boolean noAsk(int a) {
            return a < 0 || a >= asks.size();
        }

        int person(int p, int what) {
            if (noPerson(p) || what < 0 || what > 3) return BAD;
            return what == 3 ? state.sleeves.get(p).size() : people.get(p)[what];
        }

        int asking(int a, int what) {
            if (noAsk(a) || what < 0 || what > 7) return BAD;
            Ask ask = asks.get(a);
            int[] where = state.find(a);
            int[] answers = {ask.whom, ask.day, ask.work, ask.worth, ask.due, "opkg".indexOf(state.became.charAt(a)),
                where == null ? 0 : where[1], where == null ? NONE : where[0]};
            return answers[what];
        }

        int slip(int p, int i) {
            if (noPerson(p) || i < 0) return BAD;
            return i >= state.sleeves.get(p).size() ? -5 : state.sleeves.get(p).get(i)[0];
        }

        private void deed() {
            state.undo.addLast(state.copy(false));
            if (state.undo.size() > 12) state.undo.removeFirst();
        }

        int promise(int a) {
            if (noAsk(a)) return BAD;
            Ask ask = asks.get(a);
            if (state.became.charAt(a) != 'o' || ask.day != state.day) return STATE;
            List<int[]> sleeve = state.sleeves.get(ask.whom);
            if (sleeve.size() >= people.get(ask.whom)[0]) return FULL;
            deed();
            sleeve.add(new int[] {a, ask.work});
            state.mark(a, 'p');
            return sleeve.size();
        }

        int letOff(int a) {
            if (noAsk(a)) return BAD;
            int[] where = state.find(a);
            if (where == null) return STATE;
            deed();
            state.remove(a);
            state.mark(a, 'g');
            return where[1];
        }

        int breaks(int a) {
            if (noAsk(a)) return BAD;
            if (state.find(a) == null) return STATE;
            letOff(a);
            state.lost += asks.get(a).worth;
            return asks.get(a).worth;
        }

        int hand(int a, int p) {
            if (noAsk(a) || noPerson(p)) return BAD;
            int[] where = state.find(a);
            if (where == null || where[0] == p) return STATE;
            if (state.sleeves.get(p).size() >= people.get(p)[0]) return FULL;
            deed();
            state.remove(a);
            state.sleeves.get(p).add(new int[] {a, where[1]});
            return state.sleeves.get(p).size();
        }

        int undo() {
            if (state.undo.isEmpty()) return STATE;
            Deque<State> rest = state.undo;
            state = rest.removeLast().copy(false);
            state.undo = rest;
            return rest.size();
        }

        private boolean waits(int a) {
            for (int[] h : hangs) {
                if (h[0] == a && state.became.charAt(h[1]) != 'k') return true;
            }
            return false;
        }

        int day() {
            if (state.day == 10) return STATE;
            int kept = 0;
            for (int p = 0; p < people.size(); p++) {
                for (int unit = people.get(p)[1]; unit > 0; unit--) {
                    for (int[] slip : state.sleeves.get(p)) {
                        if (waits(slip[0])) continue;
                        if (--slip[1] == 0) {
                            kept++;
                            state.won += asks.get(slip[0]).worth;
                            state.mark(slip[0], 'k');
                            state.remove(slip[0]);
                        }
                        break;
                    }
                }
            }
            for (int a = 0; a < asks.size(); a++) {
                if (state.find(a) != null && asks.get(a).due <= state.day) {
                    state.remove(a);
                    state.mark(a, 'g');
                    state.lost += asks.get(a).worth;
                }
                if (state.became.charAt(a) == 'o' && asks.get(a).day <= state.day) state.mark(a, 'g');
            }
            state.day++;
            state.undo.clear();
            return kept;
        }

        int now(int what) {
            int slips = 0;
            for (List<int[]> sleeve : state.sleeves) {
                slips += sleeve.size();
            }
            int[] answers = {state.day, state.won, state.lost, slips, state.undo.size()};
            return what < 0 || what > 4 ? BAD : answers[what];
        }

        // ---- what to take: every set, unit by unit

        private boolean fits(int set, int p, int room, int work) {
            List<int[]> held = new ArrayList<>();
            for (int d = state.day; d < 10; d++) {
                for (int a = 0; a < asks.size(); a++) {
                    Ask ask = asks.get(a);
                    if ((set & 1 << a) != 0 && ask.day == d) held.add(new int[] {ask.due, a, ask.work});
                }
                if (held.size() > room) return false;
                for (int unit = 0; unit < work && !held.isEmpty(); unit++) {
                    held.sort(Comparator.<int[]>comparingInt(h -> h[0]).thenComparingInt(h -> h[1]));
                    if (--held.get(0)[2] == 0) held.remove(0);
                }
                for (int[] h : held) {
                    if (h[0] <= d) return false;
                }
            }
            return true;
        }

        private int[] best(int p, int room, int work) {
            int[] best = {0, 0};
            for (int set = 0; set < 1 << asks.size(); set++) {
                int worth = 0;
                boolean his = true;
                for (int a = 0; a < asks.size(); a++) {
                    if ((set & 1 << a) != 0) {
                        worth += asks.get(a).worth;
                        his &= asks.get(a).whom == p && asks.get(a).day >= state.day;
                    }
                }
                if (his && worth > best[0] && fits(set, p, room, work)) best = new int[] {worth, set};
            }
            return best;
        }

        int take(int p, int what) {
            if (noPerson(p) || what < 0 || what > 1) return BAD;
            return best(p, people.get(p)[0], people.get(p)[1])[what];
        }

        int bound(int p, int what) {
            if (noPerson(p) || what < 0 || what > 1) return BAD;
            return what == 0 ? best(p, 1000, people.get(p)[1])[0] : best(p, people.get(p)[0], 99)[0];
        }

        // ---- chances: the places themselves, each with the days that it is still taken

        int sort(int j, int tenths, int worth, int days) {
            if (j < 0 || j > 2 || tenths < 0 || tenths > 10 || worth < 1 || worth > 99 || days < 1 || days > 3) return BAD;
            int[] old = sorts[j];
            sorts[j] = new int[] {tenths, worth, days};
            if (tenths() > 10) {
                sorts[j] = old;
                return BAD;
            }
            return tenths();
        }

        private int tenths() {
            int all = 0;
            for (int[] s : sorts) {
                all += s == null ? 0 : s[0];
            }
            return all;
        }

        /** The mean times 10 to the power of n. */
        private BigInteger mean(int n, int[] taken) {
            if (n == 0) return BigInteger.ZERO;
            BigInteger none = mean(n - 1, nextDay(taken));
            BigInteger all = none.multiply(BigInteger.valueOf(10 - tenths()));
            for (int[] s : sorts) {
                if (s == null || s[0] == 0) continue;
                BigInteger most = none;
                if (free(taken) >= 0) most = most.max(meanTaking(s, n, taken));
                all = all.add(most.multiply(BigInteger.valueOf(s[0])));
            }
            return all;
        }

        private BigInteger meanTaking(int[] s, int n, int[] taken) {
            int[] then = taken.clone();
            then[free(taken)] = s[2];
            return BigInteger.TEN.pow(n - 1).multiply(BigInteger.valueOf(s[1])).add(mean(n - 1, nextDay(then)));
        }

        private static int free(int[] taken) {
            for (int i = 0; i < taken.length; i++) {
                if (taken[i] == 0) return i;
            }
            return -1;
        }

        private static int[] nextDay(int[] taken) {
            int[] next = new int[taken.length];
            for (int i = 0; i < next.length; i++) {
                next[i] = Math.max(0, taken[i] - 1);
            }
            return next;
        }

        long expected(int p, int n, int what) {
            if (noPerson(p) || n < 0 || n > 6 || what < 0 || what > 1) return BAD;
            BigInteger upper = mean(n, new int[people.get(p)[0]]);
            BigInteger lower = BigInteger.TEN.pow(n);
            return (what == 0 ? upper : lower).divide(upper.gcd(lower)).longValueExact();
        }

        int wise(int j, int n, int f) {
            if (j < 0 || j > 2 || sorts[j] == null || n < 1 || n > 6 || f < 1 || f > 5) return BAD;
            return meanTaking(sorts[j], n, new int[f]).compareTo(mean(n - 1, new int[f])) >= 0 ? 1 : 0;
        }

        // ---- rings: what reaches itself

        private boolean ringWithout(int off) {
            int n = asks.size();
            boolean[][] reach = new boolean[n][n];
            for (int[] h : hangs) {
                if ((off >> h[0] & 1) == 0 && (off >> h[1] & 1) == 0) reach[h[0]][h[1]] = true;
            }
            for (int k = 0; k < n; k++) {
                for (int i = 0; i < n; i++) {
                    for (int j = 0; j < n; j++) {
                        reach[i][j] |= reach[i][k] && reach[k][j];
                    }
                }
            }
            for (int i = 0; i < n; i++) {
                if (reach[i][i]) return true;
            }
            return false;
        }

        int ring() {
            return ringWithout(0) ? 1 : 0;
        }

        private boolean extend(List<Integer> row) {
            if (row.size() == asks.size()) return true;
            for (int a = 0; a < asks.size(); a++) {
                if (row.contains(a)) continue;
                boolean ready = true;
                for (int[] h : hangs) {
                    ready &= h[0] != a || row.contains(h[1]);
                }
                row.add(a);
                if (ready && extend(row)) return true;
                row.remove(row.size() - 1);
            }
            return false;
        }

        int order(int i) {
            if (i < 0) return BAD;
            if (ringWithout(0)) return NONE;
            List<Integer> row = new ArrayList<>();
            extend(row);
            return i < row.size() ? row.get(i) : -5;
        }

        int fewest(int what) {
            if (what < 0 || what > 1) return BAD;
            for (int size = 0;; size++) {
                for (int set = 0; set < 1 << asks.size(); set++) {
                    if (Integer.bitCount(set) == size && !ringWithout(set)) return what == 0 ? size : set;
                }
            }
        }

        private int left(int p) {
            return state.sleeves.get(p).stream().mapToInt(slip -> slip[1]).sum();
        }

        int great(int units, int due, int what) {
            if (units < 1 || units > 99 || due < state.day || due > 9 || what < 0 || what > 1) return BAD;
            List<int[]> offers = new ArrayList<>();
            for (int p = 0; p < people.size(); p++) {
                if (state.sleeves.get(p).size() == people.get(p)[0]) continue;
                for (int u = people.get(p)[1] * (due - state.day + 1) - left(p); u > 0; u--) {
                    offers.add(new int[] {people.get(p)[2], p});
                }
            }
            if (offers.size() < units) return NONE;
            offers.sort(Comparator.<int[]>comparingInt(o -> o[0]).thenComparingInt(o -> o[1]));
            int cost = 0;
            int who = 0;
            for (int[] o : offers.subList(0, units)) {
                cost += o[0];
                who |= 1 << o[1];
            }
            return what == 0 ? cost : who;
        }

        // ---- kinds: by a table of what is above

        private static final int[] ABOVE = {-1, 0, 0, 1, 2, 0};
        private static final int[] MARKS = {1, 10, 100, 1000, 10000, 100000};

        private int rateAs(int kind, int p) {
            trace += MARKS[kind];
            int up = ABOVE[kind] < 0 ? 0 : rateAs(ABOVE[kind], p);
            int[] answers = {people.get(p)[0] - state.sleeves.get(p).size(), up + people.get(p)[1], up - left(p), 2 * up, up + p, up + state.day};
            return answers[kind];
        }

        int rate(int kind, int p) {
            return kind < 0 || kind > 5 || noPerson(p) ? NO : rateAs(kind, p);
        }

        int keep(int image) {
            if (image < 0 || image > 1) return BAD;
            images[image] = state.copy(true);
            return state.day;
        }

        int back(int image) {
            if (image < 0 || image > 1) return BAD;
            if (images[image] == null) return STATE;
            state = images[image].copy(true);
            return state.day;
        }

        int count(int what) {
            int[] answers = {people.size(), asks.size(), hangs.size(), tenths(), text.length()};
            return what < 0 || what > 4 ? BAD : answers[what];
        }
    }
}
