import java.util.ArrayList;
import java.util.List;
import java.util.NoSuchElementException;
import java.util.Random;

/**
 * The document's own words on journeys, taken literally: on small lands of long roads every journey is
 * written out hour by hour, and each answer is looked up in that list.
 */
public final class JourneyTest {
    private static final int HOURS = 48;
    private static final int MOST_JOURNEYS = 60000;
    private static final int ROAD = 100;
    private static int wrong = 0;

    public static void main(String[] args) {
        int lands = args.length > 0 ? Integer.parseInt(args[0]) : 40;
        int tried = 0;
        for (int seed = 1; tried < lands; seed++) {
            Land land = new Land(seed);
            if (land.writeOut()) {
                tried++;
                land.chases();
            }
        }
        System.out.println(wrong == 0 ? "all answers are as the journeys say" : wrong + " answers differ");
        if (wrong != 0) {
            System.exit(1);
        }
    }

    /** At each hour a parish, or ROAD and the road; and the road by which it came just then, or -1. */
    private static final class Journey {
        final int[] at = new int[HOURS];
        final int[] by = new int[HOURS];
        /** How many facts it breaks, one of them, and the hour of the earliest. */
        int broken;
        int breaks;
        int until;
    }

    private static final class Land {
        final int seed;
        final Random dice;
        HueAndCry x;
        final int parishes;
        final int start;
        final List<int[]> roads = new ArrayList<>();
        final List<Journey> journeys = new ArrayList<>();
        final List<int[]> facts = new ArrayList<>();
        final List<Boolean> struck = new ArrayList<>();
        int exits = 0;
        int shut = -1;

        Land(int seed) {
            this.seed = seed;
            dice = new Random(seed);
            parishes = 2 + dice.nextInt(4);
            int shortest = 4 + dice.nextInt(8);
            for (int r = 0; r < parishes + 1; r++) {
                int a = dice.nextInt(parishes);
                int b = dice.nextInt(parishes);
                int hours = shortest + dice.nextInt(13 - shortest);
                if (a != b) roads.add(new int[] {a, b, hours});
            }
            start = dice.nextInt(parishes);
            exits = dice.nextInt(1 << parishes);
            if (!roads.isEmpty() && dice.nextInt(3) == 0) shut = dice.nextInt(roads.size());
        }

        /** A new object for some asking, as one is good for 512 calls alone. */
        private void makeAnew() {
            x = new HueAndCry();
            for (int p = 0; p < parishes; p++) {
                due("parish", x.parish(p), p);
                if ((exits >> p & 1) == 1) x.exit(p, true);
                due("person", x.person(p, 0, 0), p);
            }
            for (int r = 0; r < roads.size(); r++) {
                due("road", x.road(roads.get(r)[0], roads.get(r)[1], roads.get(r)[2]), r);
            }
            if (shut >= 0) x.shut(shut, true);
            x.begin(start);
            for (int f = 0; f < facts.size(); f++) {
                int[] fact = facts.get(f);
                due("a fact", tell(fact[0], fact[1], fact[2]), f);
                if (struck.get(f)) x.strike(f, true);
            }
        }

        private int tell(int kind, int spot, int hour) {
            return kind == 0 ? x.seen(spot, hour) : kind == 1 ? x.vain(spot, hour) : x.guarded(spot, hour);
        }

        void due(String call, long got, long want) {
            if (got != want && ++wrong < 40) {
                System.out.println("land " + seed + ": " + call + " answered " + got + ", due is " + want);
            }
        }

        boolean writeOut() {
            Journey first = new Journey();
            first.at[0] = start;
            first.by[0] = -1;
            goOn(first, 0);
            return journeys.size() <= MOST_JOURNEYS;
        }

        /** The journey is at a parish at an hour: it stays there for an hour, or goes along an open road. */
        private void goOn(Journey journey, int hour) {
            if (journeys.size() > MOST_JOURNEYS) return;
            if (hour == HOURS - 1) {
                Journey whole = new Journey();
                System.arraycopy(journey.at, 0, whole.at, 0, HOURS);
                System.arraycopy(journey.by, 0, whole.by, 0, HOURS);
                journeys.add(whole);
                return;
            }
            int here = journey.at[hour];
            journey.at[hour + 1] = here;
            journey.by[hour + 1] = -1;
            goOn(journey, hour + 1);
            for (int r = 0; r < roads.size(); r++) {
                int[] road = roads.get(r);
                if (r == shut || road[0] != here && road[1] != here) continue;
                int there = hour + road[2];
                for (int h = hour + 1; h < there && h < HOURS; h++) {
                    journey.at[h] = ROAD + r;
                    journey.by[h] = -1;
                }
                if (there < HOURS) {
                    journey.at[there] = road[0] == here ? road[1] : road[0];
                    journey.by[there] = r;
                }
                goOn(journey, Math.min(there, HOURS - 1));
            }
        }

        void chases() {
            askAll();
            for (int round = 0; round < 6; round++) {
                for (int i = 0; i < 4; i++) fact();
                for (int f = 0; f < facts.size(); f++) struck.set(f, dice.nextInt(4) == 0);
                askAll();
            }
        }

        /** Each is kept or broken by some journey, whichever the dice show, so that some lands have quarrels. */
        private void fact() {
            Journey some = journeys.get(dice.nextInt(journeys.size()));
            int hour = dice.nextInt(5) == 0 ? HOURS - 1 - dice.nextInt(3) : dice.nextInt(HOURS);
            int at = some.at[hour];
            if (at >= ROAD) {
                facts.add(new int[] {2, at - ROAD, hour});
            } else {
                facts.add(new int[] {dice.nextInt(3) == 0 ? 0 : 1, at, hour});
            }
            struck.add(false);
        }

        private void judge(Journey journey) {
            journey.broken = 0;
            journey.until = HOURS;
            for (int f = 0; f < facts.size(); f++) {
                int[] fact = facts.get(f);
                int at = journey.at[fact[2]];
                boolean so = fact[0] == 0 ? at == fact[1] : fact[0] == 1 ? at != fact[1] : at != ROAD + fact[1];
                if (!so && !struck.get(f)) {
                    journey.broken++;
                    journey.breaks = f;
                    journey.until = Math.min(journey.until, fact[2]);
                }
            }
        }

        private void askAll() {
            int[] may = new int[HOURS];
            int[] was = new int[HOURS];
            boolean some = false;
            long menders = 0;
            for (Journey journey : journeys) {
                judge(journey);
                for (int h = 0; h < HOURS; h++) {
                    if (journey.at[h] >= ROAD) continue;
                    if (journey.until > h) may[h] |= 1 << journey.at[h];
                    if (journey.broken == 0) was[h] |= 1 << journey.at[h];
                }
                some |= journey.broken == 0;
                menders |= journey.broken == 1 ? 1L << journey.breaks : 0;
            }
            makeAnew();
            due("quarrel()", x.quarrel(), some ? -1 : menders);
            for (int h = 0; h < HOURS; h++) {
                due("places(" + h + ", 0)", x.places(h, 0), may[h]);
                due("places(" + h + ", 1)", x.places(h, 1), was[h]);
                due("suspects(" + h + ")", x.suspects(h), Integer.bitCount(may[h]));
            }
            for (int p = 0; p < parishes; p++) {
                makeAnew();
                int first = -1;
                for (int h = HOURS - 1; h >= 0; h--) {
                    int bit = may[h] >> p & 1;
                    first = bit == 1 ? h : first;
                    due("may(" + p + ", " + h + ")", x.may(p, h), bit);
                    due("was(" + p + ", " + h + ")", x.was(p, h), was[h] >> p & 1);
                }
                due("first(" + p + ")", x.first(p), first);
            }
            makeAnew();
            for (int i = 0; i < 8; i++) trail(dice.nextInt(parishes), dice.nextInt(HOURS), may);
            for (int i = 0; i < 4; i++) watch();
        }

        private void trail(int p, int hour, int[] may) {
            String call = "trail(" + p + ", " + hour + ")";
            if ((may[hour] >> p & 1) == 0) {
                due(call, x.trail(p, hour), 0);
                return;
            }
            List<Integer> told = new ArrayList<>();
            told.add(p);
            int at = p;
            int now = hour;
            while (now > 0) {
                if ((may[now - 1] >> at & 1) == 1) {
                    now--;
                    continue;
                }
                int least = leastRoad(at, now);
                now -= roads.get(least)[2];
                at = roads.get(least)[0] == at ? roads.get(least)[1] : roads.get(least)[0];
                told.add(0, at);
            }
            due(call, x.trail(p, hour), told.size());
            dueRow(call, told);
        }

        private int leastRoad(int at, int now) {
            int least = roads.size();
            for (Journey journey : journeys) {
                if (journey.until > now && journey.at[now] == at && journey.by[now] >= 0) {
                    least = Math.min(least, journey.by[now]);
                }
            }
            return least;
        }

        private void dueRow(String call, List<Integer> want) {
            due(call + ": numbers of the row", x.count(7), want.size());
            for (int i = 0; i < want.size(); i++) {
                due(call + ": row(" + i + ")", x.row(i), want.get(i));
            }
            try {
                x.row(want.size());
                due(call + ": row behind its end throws", 0, 1);
            } catch (NoSuchElementException e) {
                // That is due.
            }
        }

        private void watch() {
            int t = dice.nextInt(HOURS);
            int u = t + dice.nextInt(HOURS - t);
            int best = -1;
            for (int watched = 0; watched < 1 << parishes; watched++) {
                if (Integer.bitCount(watched) <= 3 && isTight(watched, t, u) && (best == -1 || isAhead(watched, best))) {
                    best = watched;
                }
            }
            String call = "watch(" + t + ", " + u + ")";
            due(call, x.watch(t, u), best == -1 ? -3 : Integer.bitCount(best));
            if (best != -1) {
                List<Integer> want = new ArrayList<>();
                for (int p = 0; p < parishes; p++) if ((best >> p & 1) == 1) want.add(p);
                dueRow(call, want);
            }
        }

        private boolean isTight(int watched, int t, int u) {
            for (Journey journey : journeys) {
                if (journey.until <= t) continue;
                boolean taken = false;
                boolean out = false;
                for (int h = t; h <= u; h++) {
                    int at = journey.at[h];
                    taken |= at < ROAD && (watched >> at & 1) == 1;
                    out |= at < ROAD && (exits >> at & 1) == 1;
                }
                if (out && !taken) return false;
            }
            return true;
        }

        /** Fewer, or as many and the earlier row: the one that has the lowest parish in which they differ. */
        private static boolean isAhead(int one, int other) {
            if (Integer.bitCount(one) != Integer.bitCount(other)) {
                return Integer.bitCount(one) < Integer.bitCount(other);
            }
            int differ = one ^ other;
            return (one & Integer.lowestOneBit(differ)) != 0;
        }
    }
}
