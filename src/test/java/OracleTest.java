import java.util.ArrayList;
import java.util.Arrays;
import java.util.HashSet;
import java.util.List;
import java.util.NoSuchElementException;
import java.util.Random;
import java.util.Set;
import java.util.regex.Matcher;
import java.util.regex.Pattern;

/**
 * Long runs of calls, drawn from fixed seeds, against a slow model that is written another way:
 * it moves him hour by hour over places and points on roads, and tries every row of watched parishes.
 */
public final class OracleTest {
    private static int wrong = 0;

    public static void main(String[] args) {
        int runs = args.length > 0 ? Integer.parseInt(args[0]) : 160;
        for (int seed = 1; seed <= runs; seed++) {
            new Run(seed).go();
        }
        new Run(0).hardLand();
        System.out.println(wrong == 0 ? "all answers are as the model's" : wrong + " answers differ");
        if (wrong != 0) {
            System.exit(1);
        }
    }

    /** A fact: kind 0 seen, 1 vain, 2 guarded. */
    private static final class Fact {
        final int kind, spot, hour;
        boolean struck;

        Fact(int kind, int spot, int hour) {
            this.kind = kind;
            this.spot = spot;
            this.hour = hour;
        }
    }

    private static final class Model {
        final List<Integer> counties = new ArrayList<>();
        final Set<Integer> exits = new HashSet<>();
        final List<int[]> roads = new ArrayList<>();
        final Set<Integer> shut = new HashSet<>();
        final List<Fact> facts = new ArrayList<>();
        final List<int[]> persons = new ArrayList<>();
        final Integer[] values = new Integer[6];
        final int[] blurs = new int[6];
        final List<String> acts = new ArrayList<>();
        final List<int[]> claims = new ArrayList<>();
        List<Integer> row = new ArrayList<>();
        StringBuilder tape = new StringBuilder();
        int start = -1;

        boolean isParish(int p) {
            return 0 <= p && p < counties.size();
        }

        boolean isRoad(int r) {
            return 0 <= r && r < roads.size();
        }

        static boolean isHour(int h) {
            return 0 <= h && h <= 47;
        }

        int parish(int county) {
            if (county < 0 || county > 5 || counties.size() == 24) return -1;
            counties.add(county);
            return counties.size() - 1;
        }

        int road(int a, int b, int hours) {
            if (!isParish(a) || !isParish(b) || a == b || hours < 1 || hours > 12 || roads.size() == 40) return -1;
            roads.add(new int[] {a, b, hours});
            return roads.size() - 1;
        }

        int far(int a, int b) {
            if (!isParish(a) || !isParish(b)) return -1;
            int n = counties.size();
            int[][] d = new int[n][n];
            for (int[] line : d) Arrays.fill(line, 1000000);
            for (int i = 0; i < n; i++) d[i][i] = 0;
            for (int r = 0; r < roads.size(); r++) {
                if (shut.contains(r)) continue;
                int[] x = roads.get(r);
                d[x[0]][x[1]] = Math.min(d[x[0]][x[1]], x[2]);
                d[x[1]][x[0]] = Math.min(d[x[1]][x[0]], x[2]);
            }
            for (int k = 0; k < n; k++)
                for (int i = 0; i < n; i++)
                    for (int j = 0; j < n; j++) d[i][j] = Math.min(d[i][j], d[i][k] + d[k][j]);
            return d[a][b] == 1000000 ? -1 : d[a][b];
        }

        int fact(int kind, int spot, int hour) {
            boolean there = kind == 2 ? isRoad(spot) : isParish(spot);
            if (!there || !isHour(hour) || facts.size() == 40) return -1;
            facts.add(new Fact(kind, spot, hour));
            return facts.size() - 1;
        }

        // A point: parish p is p; on road r, gone g hours from its end e (0, 1): 100 + ((r * 2 + e) * 16 + g).
        private List<Integer> next(int point) {
            List<Integer> to = new ArrayList<>();
            if (point < 100) {
                to.add(point);
                for (int r = 0; r < roads.size(); r++) {
                    if (shut.contains(r)) continue;
                    for (int e = 0; e < 2; e++) {
                        if (roads.get(r)[e] == point) to.add(along(r, e, 1));
                    }
                }
            } else {
                int code = point - 100;
                to.add(along(code / 32, code / 16 % 2, code % 16 + 1));
            }
            return to;
        }

        private int along(int r, int e, int gone) {
            return gone == roads.get(r)[2] ? roads.get(r)[1 - e] : 100 + ((r * 2 + e) * 16 + gone);
        }

        private boolean agrees(int point, int hour, int upTo) {
            for (Fact f : facts) {
                if (f.struck || f.hour != hour || f.hour > upTo) continue;
                boolean so;
                if (f.kind == 0) so = point == f.spot;
                else if (f.kind == 1) so = point != f.spot;
                else so = point < 100 || (point - 100) / 32 != f.spot;
                if (!so) return false;
            }
            return true;
        }

        private List<Set<Integer>> forward(int upTo, Set<Integer> watched, int t, int u) {
            List<Set<Integer>> all = new ArrayList<>();
            for (int hour = 0; hour < 48; hour++) {
                Set<Integer> now = new HashSet<>();
                if (hour == 0) {
                    now.add(start);
                } else {
                    for (int point : all.get(hour - 1)) now.addAll(next(point));
                }
                final int h = hour;
                now.removeIf(point -> !agrees(point, h, upTo) || h >= t && h <= u && watched.contains(point));
                all.add(now);
            }
            return all;
        }

        private List<Set<Integer>> forward() {
            return forward(47, Set.of(), 0, -1);
        }

        private List<Set<Integer>> through() {
            List<Set<Integer>> all = forward();
            for (int hour = 46; hour >= 0; hour--) {
                Set<Integer> later = all.get(hour + 1);
                all.get(hour).removeIf(point -> {
                    for (int to : next(point)) if (later.contains(to)) return false;
                    return true;
                });
            }
            return all;
        }

        private static int bits(Set<Integer> points) {
            int found = 0;
            for (int point : points) if (point < 100) found |= 1 << point;
            return found;
        }

        int may(int p, int hour) {
            if (!isParish(p) || !isHour(hour) || start < 0) return -1;
            return forward().get(hour).contains(p) ? 1 : 0;
        }

        int was(int p, int hour) {
            if (!isParish(p) || !isHour(hour) || start < 0) return -1;
            return through().get(hour).contains(p) ? 1 : 0;
        }

        int places(int hour, int what) {
            if (!isHour(hour) || start < 0 || what != 0 && what != 1) return -1;
            return bits((what == 0 ? forward() : through()).get(hour));
        }

        int first(int p) {
            if (!isParish(p) || start < 0) return -1;
            List<Set<Integer>> all = forward();
            for (int hour = 0; hour < 48; hour++) if (all.get(hour).contains(p)) return hour;
            return -1;
        }

        int trail(int p, int hour) {
            if (!isParish(p) || !isHour(hour) || start < 0) return -1;
            List<Set<Integer>> all = forward();
            if (!all.get(hour).contains(p)) return 0;
            List<Integer> told = new ArrayList<>();
            told.add(p);
            int at = p;
            int now = hour;
            back:
            while (now > 0) {
                if (all.get(now - 1).contains(at)) {
                    now--;
                    continue;
                }
                for (int r = 0; r < roads.size(); r++) {
                    int[] x = roads.get(r);
                    if (shut.contains(r) || x[0] != at && x[1] != at || now < x[2]) continue;
                    int e = x[0] == at ? 1 : 0;
                    boolean can = all.get(now - x[2]).contains(x[e]);
                    for (int gone = 1; gone < x[2]; gone++) {
                        can &= agrees(along(r, e, gone), now - x[2] + gone, 47);
                    }
                    if (can) {
                        at = x[e];
                        now -= x[2];
                        told.add(0, at);
                        continue back;
                    }
                }
                throw new IllegalStateException("the model has no way back");
            }
            row = told;
            return told.size();
        }

        long quarrel() {
            if (start < 0) return 0;
            if (!forward().get(47).isEmpty()) return -1;
            long found = 0;
            for (int i = 0; i < facts.size(); i++) {
                Fact f = facts.get(i);
                if (f.struck) continue;
                f.struck = true;
                if (!forward().get(47).isEmpty()) found |= 1L << i;
                f.struck = false;
            }
            return found;
        }

        private boolean tight(List<Integer> watched, int t, int u) {
            List<Set<Integer>> all = forward(t, new HashSet<>(watched), t, u);
            for (int hour = t; hour <= u; hour++) {
                for (int exit : exits) if (all.get(hour).contains(exit)) return false;
            }
            return true;
        }

        private static List<List<Integer>> rows(int size, int from, int n) {
            List<List<Integer>> all = new ArrayList<>();
            if (size == 0) {
                all.add(new ArrayList<>());
                return all;
            }
            for (int p = from; p < n; p++) {
                for (List<Integer> rest : rows(size - 1, p + 1, n)) {
                    rest.add(0, p);
                    all.add(rest);
                }
            }
            return all;
        }

        int watch(int t, int u) {
            if (!isHour(t) || !isHour(u) || u < t || start < 0) return -1;
            for (int size = 0; size <= 3; size++) {
                for (List<Integer> watched : rows(size, 0, counties.size())) {
                    if (tight(watched, t, u)) {
                        row = watched;
                        return size;
                    }
                }
            }
            return -3;
        }

        boolean trait(int trait, int value, int blur) {
            if (trait < 0 || trait > 5 || value < -1 || value > 31 || blur < 0 || blur > 31) return false;
            values[trait] = value < 0 ? null : (Integer) value;
            blurs[trait] = blur;
            return true;
        }

        int telling(int n) {
            if (n < 0 || n > 31) return -1;
            int sum = 0;
            for (int i = 0; i < 6; i++) {
                if (values[i] == null) continue;
                blurs[i] = Math.min(31, blurs[i] + n);
                sum += blurs[i];
            }
            return sum;
        }

        int person(int p, int a, int b) {
            if (!isParish(p) || a < 0 || a > 32767 || b < 0 || b > 32767 || persons.size() == 30) return -1;
            persons.add(new int[] {p, a / 1024, a / 32 % 32, a % 32, b / 1024, b / 32 % 32, b % 32});
            return persons.size() - 1;
        }

        int fits(int person) {
            if (person < 0 || person >= persons.size()) return -1;
            int[] x = persons.get(person);
            for (int i = 0; i < 6; i++) {
                if (values[i] == null) continue;
                if (x[i + 1] > values[i] + blurs[i] || x[i + 1] < values[i] - blurs[i]) return i + 1;
            }
            return 0;
        }

        int many(int county) {
            if (county < -1 || county > 5) return -2;
            int found = 0;
            for (int i = 0; i < persons.size(); i++) {
                boolean of = county == -1 || counties.get(persons.get(i)[0]) == county;
                if (of && fits(i) == 0) found++;
            }
            return found;
        }

        int suspects(int hour) {
            if (!isHour(hour) || start < 0) return -1;
            Set<Integer> where = forward().get(hour);
            int found = 0;
            for (int i = 0; i < persons.size(); i++) {
                if (where.contains(persons.get(i)[0]) && fits(i) == 0) found++;
            }
            return found;
        }

        int sign(int v) {
            if (tape.length() > 96) return -1;
            tape.append((char) (v >>> 24)).append((char) (v >>> 16 & 255)).append((char) (v >>> 8 & 255)).append((char) (v & 255));
            return tape.length();
        }

        boolean end(int n) {
            if (n < 0 || n > tape.length()) return false;
            tape.setLength(n);
            return true;
        }

        private static final Pattern ACT = Pattern.compile("[nhc][<>=][0-9]{1,3}(&[nhc][<>=][0-9]{1,3})*:[0-9]{1,3}");

        private static boolean canGoOn(String text) {
            Matcher m = ACT.matcher(text);
            return m.matches() || m.hitEnd();
        }

        int act() {
            String text = tape.toString();
            tape.setLength(0);
            if (acts.size() == 8) return -100;
            for (int p = 0; p < text.length(); p++) {
                if (p == 40 || !canGoOn(text.substring(0, p + 1))) return -1 - p;
            }
            if (!ACT.matcher(text).matches()) return -1 - text.length();
            acts.add(text);
            return acts.size() - 1;
        }

        int claim(int p, int hour) {
            if (!isParish(p) || !isHour(hour) || claims.size() == 12) return -1;
            claims.add(new int[] {p, hour});
            return claims.size() - 1;
        }

        int weight(int claim) {
            if (claim < 0 || claim >= claims.size()) return -1;
            next:
            for (String text : acts) {
                String[] halves = text.split(":");
                for (String ask : halves[0].split("&")) {
                    int is = claim;
                    if (ask.charAt(0) == 'h') is = claims.get(claim)[1];
                    if (ask.charAt(0) == 'c') is = counties.get(claims.get(claim)[0]);
                    int sign = Integer.signum(is - Integer.parseInt(ask.substring(2)));
                    if (sign != "<=>".indexOf(ask.charAt(1)) - 1) continue next;
                }
                return Integer.parseInt(halves[1]);
            }
            return 0;
        }

        int reward(int sum) {
            if (sum < 1 || sum > 1000000) return -1;
            long all = 0;
            int most = -1;
            for (int i = 0; i < claims.size(); i++) {
                all += weight(i);
                most = Math.max(most, weight(i));
            }
            List<Integer> told = new ArrayList<>();
            int given = 0;
            for (int i = 0; i < claims.size(); i++) {
                told.add(all == 0 ? 0 : (int) ((long) sum * weight(i) / all));
                given += told.get(i);
            }
            row = told;
            if (all == 0) return 0;
            for (int i = 0; i < claims.size(); i++) {
                if (weight(i) == most) {
                    told.set(i, told.get(i) + sum - given);
                    break;
                }
            }
            return sum;
        }

        int count(int what) {
            int standing = 0;
            for (Fact f : facts) if (!f.struck) standing++;
            int[] all = {counties.size(), roads.size(), facts.size(), standing, persons.size(),
                acts.size(), claims.size(), row.size(), tape.length(), start};
            return what < 0 || what > 9 ? -1 : all[what];
        }
    }

    private static final class Run {
        final int seed;
        final Random dice;
        final HueAndCry x = new HueAndCry();
        final Model m = new Model();
        final int parishes;
        final int roads;
        int calls = 0;
        int watches = 0;

        Run(int seed) {
            this.seed = seed;
            dice = new Random(seed);
            parishes = 2 + dice.nextInt(seed % 8 == 0 ? 24 : 9);
            roads = dice.nextInt(3) == 0 ? parishes : Math.min(45, parishes * 2);
        }

        void due(String call, long got, long want) {
            calls++;
            if (got != want) {
                wrong++;
                if (wrong < 40) System.out.println("seed " + seed + " call " + calls + ": " + call + " answered " + got + ", due is " + want);
            }
        }

        long bit(boolean is) {
            return is ? 1 : 0;
        }

        /** 0 .. n - 1, now and then one beside it. */
        int near(int n) {
            int r = dice.nextInt(40);
            if (r == 0) return -1;
            if (r == 1) return n;
            if (r == 2) return new int[] {Integer.MIN_VALUE, Integer.MAX_VALUE, -2, n + 1}[dice.nextInt(4)];
            return n <= 0 ? 0 : dice.nextInt(n);
        }

        int hour() {
            return dice.nextInt(3) == 0 ? near(48) : near(16);
        }

        void go() {
            for (int i = 0; i < parishes; i++) parish();
            for (int i = 0; i < roads; i++) road();
            if (dice.nextInt(8) != 0) begin(near(parishes));
            // Nothing is promised behind the 512th call, and one step may make some twenty.
            while (calls < 490) {
                step();
            }
        }

        /** A land sought for this: to find whom to watch takes some seventy ways out, more than are kept at once. */
        void hardLand() {
            int[] ends = {8, 13, 1, 3, 20, 2, 4, 21, 11, 3, 19, 11, 22, 2, 1, 8, 3, 1, 2, 16, 1, 19, 5, 6, 18, 13, 11, 15, 21, 8,
                4, 11, 1, 17, 11, 1, 20, 9, 2, 1, 22, 5, 17, 10, 2, 0, 9, 2, 16, 4, 4, 10, 8, 7, 22, 21, 2, 5, 4, 9,
                23, 21, 2, 11, 14, 5, 2, 4, 6, 0, 20, 12, 11, 7, 2, 13, 5, 4, 9, 18, 5, 16, 1, 5, 17, 13, 7, 16, 21, 4,
                15, 17, 11, 14, 10, 2, 17, 5, 2, 3, 6, 2, 17, 4, 3, 13, 6, 4, 0, 18, 9, 8, 20, 4, 7, 16, 3, 6, 9, 10};
            for (int i = 0; i < 24; i++) due("parish(0)", x.parish(0), m.parish(0));
            for (int i = 0; i < ends.length; i += 3) {
                due("road", x.road(ends[i], ends[i + 1], ends[i + 2]), m.road(ends[i], ends[i + 1], ends[i + 2]));
            }
            begin(0);
            for (int exit = 22; exit <= 23; exit++) {
                m.exits.add(exit);
                due("exit(" + exit + ")", bit(x.exit(exit, true)), 1);
            }
            for (int t = 0; t < 4; t++) {
                due("watch(" + t + ", 47) of the hard land", x.watch(t, 47), m.watch(t, 47));
                rows();
            }
        }

        void parish() {
            int county = near(6);
            due("parish(" + county + ")", x.parish(county), m.parish(county));
        }

        void road() {
            int a = near(parishes);
            int b = near(parishes);
            int hours = dice.nextInt(3) == 0 ? near(14) : 1 + dice.nextInt(3);
            due("road(" + a + ", " + b + ", " + hours + ")", x.road(a, b, hours), m.road(a, b, hours));
        }

        void begin(int p) {
            boolean is = m.isParish(p);
            if (is) m.start = p;
            due("begin(" + p + ")", bit(x.begin(p)), bit(is));
        }

        void step() {
            switch (dice.nextInt(16)) {
                case 0: land(); break;
                case 1: case 2: case 3: fact(); break;
                case 4: case 5: case 6: case 7: where(); break;
                case 8: case 9: describe(); break;
                case 10: case 11: case 12: acts(); break;
                case 13: case 14: claims(); break;
                default: look(); break;
            }
        }

        void land() {
            boolean is = dice.nextInt(3) != 0;
            int p = near(m.counties.size());
            switch (dice.nextInt(8)) {
                case 0: parish(); break;
                case 1: road(); break;
                case 2: case 3: {
                    int r = near(m.roads.size());
                    boolean there = m.isRoad(r);
                    if (there && !is) m.shut.add(r);
                    if (there && is) m.shut.remove(r);
                    due("shut(" + r + ", " + !is + ")", bit(x.shut(r, !is)), bit(there));
                    break;
                }
                case 4: case 5: case 6: {
                    boolean there = m.isParish(p);
                    if (there && is) m.exits.add(p);
                    if (there && !is) m.exits.remove(p);
                    due("exit(" + p + ", " + is + ")", bit(x.exit(p, is)), bit(there));
                    break;
                }
                default: begin(dice.nextInt(4) == 0 ? p : m.start); break;
            }
        }

        void fact() {
            int hour = hour();
            int p = near(m.counties.size());
            int r = near(m.roads.size());
            switch (dice.nextInt(8)) {
                case 0: {
                    // Mostly where he may be, that chases live on.
                    int where = m.places(hour, 0);
                    if (where > 0 && dice.nextInt(4) != 0) p = Integer.numberOfTrailingZeros(where);
                    due("seen(" + p + ", " + hour + ")", x.seen(p, hour), m.fact(0, p, hour));
                    break;
                }
                case 1: case 2: due("vain(" + p + ", " + hour + ")", x.vain(p, hour), m.fact(1, p, hour)); break;
                case 3: case 4: due("guarded(" + r + ", " + hour + ")", x.guarded(r, hour), m.fact(2, r, hour)); break;
                default: {
                    int f = near(m.facts.size());
                    boolean there = f >= 0 && f < m.facts.size();
                    boolean is = dice.nextInt(3) != 0;
                    if (there) m.facts.get(f).struck = is;
                    due("strike(" + f + ", " + is + ")", bit(x.strike(f, is)), bit(there));
                    break;
                }
            }
        }

        void where() {
            int hour = hour();
            int p = near(m.counties.size());
            switch (dice.nextInt(8)) {
                case 0: due("may(" + p + ", " + hour + ")", x.may(p, hour), m.may(p, hour)); break;
                case 1: due("was(" + p + ", " + hour + ")", x.was(p, hour), m.was(p, hour)); break;
                case 2: case 3: {
                    int what = near(2);
                    due("places(" + hour + ", " + what + ")", x.places(hour, what), m.places(hour, what));
                    break;
                }
                case 4: due("first(" + p + ")", x.first(p), m.first(p)); break;
                case 5: due("trail(" + p + ", " + hour + ")", x.trail(p, hour), m.trail(p, hour)); rows(); break;
                case 6: due("quarrel()", x.quarrel(), m.quarrel()); break;
                default: watch(); break;
            }
        }

        void watch() {
            // The model tries every row, so large lands get few watches.
            if (++watches > (parishes > 9 ? 1 : 12)) return;
            int t = hour();
            int u = dice.nextInt(3) == 0 ? hour() : Math.min(47, t + dice.nextInt(12));
            due("watch(" + t + ", " + u + ")", x.watch(t, u), m.watch(t, u));
            rows();
        }

        void rows() {
            due("count(7)", x.count(7), m.row.size());
            for (int i = 0; i < m.row.size() && i < 4; i++) row(i);
            row(m.row.size() - 1);
            row(m.row.size());
        }

        void row(int i) {
            long got;
            try {
                got = x.row(i);
            } catch (NoSuchElementException e) {
                got = Long.MIN_VALUE;
            }
            boolean there = i >= 0 && i < m.row.size();
            due("row(" + i + ")", got, there ? m.row.get(i) : Long.MIN_VALUE);
        }

        void describe() {
            int person = near(m.persons.size());
            switch (dice.nextInt(8)) {
                case 0: {
                    int trait = near(6);
                    int value = near(32);
                    int blur = dice.nextInt(2) == 0 ? near(32) : near(5);
                    due("trait(" + trait + ", " + value + ", " + blur + ")", bit(x.trait(trait, value, blur)), bit(m.trait(trait, value, blur)));
                    break;
                }
                case 1: {
                    int n = dice.nextInt(3) == 0 ? near(32) : near(3);
                    due("telling(" + n + ")", x.telling(n), m.telling(n));
                    break;
                }
                case 2: case 3: {
                    int p = near(m.counties.size());
                    int a = near(32768);
                    int b = near(32768);
                    due("person(" + p + ", " + a + ", " + b + ")", x.person(p, a, b), m.person(p, a, b));
                    break;
                }
                case 4: case 5: due("fits(" + person + ")", x.fits(person), m.fits(person)); break;
                case 6: {
                    int county = near(6);
                    due("many(" + county + ")", x.many(county), m.many(county));
                    break;
                }
                default: {
                    int hour = hour();
                    due("suspects(" + hour + ")", x.suspects(hour), m.suspects(hour));
                    break;
                }
            }
        }

        String text() {
            StringBuilder s = new StringBuilder();
            int asks = dice.nextInt(6) == 0 ? 1 + dice.nextInt(12) : 1 + dice.nextInt(2);
            for (int i = 0; i < asks; i++) {
                if (i > 0) s.append('&');
                s.append("nhc".charAt(dice.nextInt(3))).append("<>=".charAt(dice.nextInt(3)));
                s.append(dice.nextInt(asks > 2 ? 10 : dice.nextInt(4) == 0 ? 1000 : 12));
            }
            s.append(':').append(dice.nextInt(dice.nextInt(2) == 0 ? 10 : 1000));
            if (dice.nextInt(4) == 0) {
                int at = dice.nextInt(s.length());
                char odd = dice.nextInt(3) == 0 ? (char) dice.nextInt(256) : "nhc<>=&:059 ".charAt(dice.nextInt(12));
                if (dice.nextBoolean()) s.setCharAt(at, odd);
                else s.insert(at, odd);
            }
            if (dice.nextInt(8) == 0) s.setLength(dice.nextInt(s.length()));
            return s.toString();
        }

        void acts() {
            switch (dice.nextInt(12)) {
                case 0: {
                    int v = dice.nextInt();
                    due("sign(" + v + ")", x.sign(v), m.sign(v));
                    break;
                }
                case 1: {
                    int n = near(m.tape.length() + 1);
                    due("end(" + n + ")", bit(x.end(n)), bit(m.end(n)));
                    break;
                }
                case 2: {
                    if (dice.nextInt(6) != 0) break;
                    int were = m.acts.size();
                    m.acts.clear();
                    due("repeal()", x.repeal(), were);
                    break;
                }
                default: {
                    if (dice.nextInt(4) != 0) due("end(0)", bit(x.end(0)), bit(m.end(0)));
                    String text = text();
                    int from = m.tape.length();
                    for (int i = 0; i < text.length(); i += 4) {
                        int v = 0;
                        for (int j = i; j < i + 4; j++) v = v << 8 | (j < text.length() ? text.charAt(j) : 0);
                        due("sign(" + v + ")", x.sign(v), m.sign(v));
                    }
                    due("end", bit(x.end(from + text.length())), bit(m.end(from + text.length())));
                    due("act() of " + m.tape, x.act(), m.act());
                    due("count(8)", x.count(8), m.tape.length());
                    break;
                }
            }
        }

        void claims() {
            switch (dice.nextInt(8)) {
                case 0: case 1: case 2: {
                    int p = near(m.counties.size());
                    int hour = hour();
                    due("claim(" + p + ", " + hour + ")", x.claim(p, hour), m.claim(p, hour));
                    break;
                }
                case 3: case 4: {
                    int c = near(m.claims.size());
                    due("weight(" + c + ")", x.weight(c), m.weight(c));
                    break;
                }
                case 5: case 6: {
                    int sum = dice.nextInt(4) == 0 ? near(1000001) : 1 + dice.nextInt(1000);
                    due("reward(" + sum + ")", x.reward(sum), m.reward(sum));
                    rows();
                    break;
                }
                default: {
                    if (dice.nextInt(6) != 0) break;
                    int were = m.claims.size();
                    m.claims.clear();
                    due("waive()", x.waive(), were);
                    break;
                }
            }
        }

        void look() {
            switch (dice.nextInt(3)) {
                case 0: {
                    int what = near(10);
                    due("count(" + what + ")", x.count(what), m.count(what));
                    break;
                }
                case 1: {
                    int a = near(m.counties.size());
                    int b = near(m.counties.size());
                    due("far(" + a + ", " + b + ")", x.far(a, b), m.far(a, b));
                    break;
                }
                default: row(near(m.row.size())); break;
            }
        }
    }
}
