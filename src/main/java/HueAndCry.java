import java.util.NoSuchElementException;

/** One who flees over parishes and roads, those who look for him, and what they are paid. */
public final class HueAndCry {
    public static final int NONE = -1;

    private static final int MOST_PARISHES = 24;
    private static final int COUNTIES = 6;
    private static final int MOST_ROADS = 40;
    private static final int LONGEST_ROAD = 12;
    private static final int HOURS = 48;
    private static final int LAST_HOUR = 47;
    private static final int EVERYWHERE = -1;

    private static final int MOST_FACTS = 40;
    private static final int SEEN = 0;
    private static final int VAIN = 1;
    private static final int GUARDED = 2;

    private static final int MOST_WATCHED = 3;
    private static final int NOT_ENOUGH = -3;
    // 24 parishes have no more rows of three than these.
    private static final int MOST_ROWS = 2024;
    private static final int MOST_WAYS = 32;

    private static final int TRAITS = 6;
    private static final int GREATEST_NUMBER = 31;
    private static final int GREATEST_TRIPLE = 32767;
    private static final int MOST_PERSONS = 30;
    private static final int NO_SUCH_COUNTY = -2;

    private static final int TAPE_LENGTH = 100;
    private static final int ACT_LENGTH = 40;
    // An ask and what joins it to the next have four signs at least.
    private static final int MOST_ASKS = 10;
    private static final int MOST_DIGITS = 3;
    private static final int MOST_ACTS = 8;
    private static final int ACTS_FULL = -100;
    private static final int MOST_CLAIMS = 12;
    private static final int GREATEST_REWARD = 1000000;

    private final Patrol patrol;
    private final Chase chase;
    private final Land land;
    private final Facts facts;
    private final Crowd crowd;
    private final Tape tape;
    private final Court court;
    private final Row told;

    public HueAndCry() {
        patrol = new Patrol();
        chase = patrol.chase;
        land = chase.land;
        facts = chase.facts;
        crowd = new Crowd();
        tape = new Tape();
        court = new Court();
        told = new Row();
    }

    // ---- the land

    public int parish(int county) {
        return land.addParish(county);
    }

    public int road(int a, int b, int hours) {
        return land.addRoad(a, b, hours);
    }

    public boolean shut(int road, boolean is) {
        if (!land.hasRoad(road)) {
            return false;
        }
        land.shut[road] = is;
        return true;
    }

    public boolean exit(int parish, boolean is) {
        if (!land.hasParish(parish)) {
            return false;
        }
        land.exits = is ? land.exits | bit(parish) : land.exits & ~bit(parish);
        return true;
    }

    public boolean begin(int parish) {
        if (!land.hasParish(parish)) {
            return false;
        }
        land.start = parish;
        return true;
    }

    public int count(int what) {
        switch (what) {
            case 0: return land.parishes;
            case 1: return land.roads;
            case 2: return facts.size;
            case 3: return facts.standing();
            case 4: return crowd.size;
            case 5: return court.acts;
            case 6: return court.claims;
            case 7: return told.size;
            case 8: return tape.size;
            case 9: return land.start;
            default: return NONE;
        }
    }

    public int far(int a, int b) {
        if (!land.hasParish(a) || !land.hasParish(b)) {
            return NONE;
        }
        return land.shortest(a, b);
    }

    // ---- facts

    public int seen(int parish, int hour) {
        return land.hasParish(parish) ? facts.add(SEEN, parish, hour) : NONE;
    }

    public int vain(int parish, int hour) {
        return land.hasParish(parish) ? facts.add(VAIN, parish, hour) : NONE;
    }

    public int guarded(int road, int hour) {
        return land.hasRoad(road) ? facts.add(GUARDED, road, hour) : NONE;
    }

    public boolean strike(int fact, boolean is) {
        if (fact < 0 || fact >= facts.size) {
            return false;
        }
        facts.struck[fact] = is;
        return true;
    }

    // ---- where he is

    public int may(int parish, int hour) {
        if (!canAsk(parish, hour)) {
            return NONE;
        }
        return has(chase.mayBe(hour), parish) ? 1 : 0;
    }

    public int was(int parish, int hour) {
        if (!canAsk(parish, hour)) {
            return NONE;
        }
        return has(chase.mayHaveBeen(hour), parish) ? 1 : 0;
    }

    public int places(int hour, int what) {
        if (!isHour(hour) || land.start == NONE || what < 0 || what > 1) {
            return NONE;
        }
        return what == 0 ? chase.mayBe(hour) : chase.mayHaveBeen(hour);
    }

    public int first(int parish) {
        if (!canAsk(parish, LAST_HOUR)) {
            return NONE;
        }
        return chase.firstHour(parish);
    }

    public int trail(int parish, int hour) {
        if (!canAsk(parish, hour)) {
            return NONE;
        }
        if (!has(chase.mayBe(hour), parish)) {
            return 0;
        }
        chase.tellWay(parish, hour, told);
        return told.size;
    }

    public long quarrel() {
        if (land.start == NONE) {
            return 0;
        }
        return chase.someAgrees() ? NONE : chase.menders();
    }

    public int watch(int t, int u) {
        if (!isHour(t) || !isHour(u) || u < t || land.start == NONE) {
            return NONE;
        }
        int fewest = patrol.fewest(t, u);
        if (fewest >= 0) {
            patrol.tellPicks(fewest, told);
        }
        return fewest;
    }

    // ---- descriptions

    public boolean trait(int trait, int value, int blur) {
        return crowd.description.set(trait, value, blur);
    }

    public int telling(int n) {
        return isNumber(n) ? crowd.description.tellOn(n) : NONE;
    }

    public int person(int parish, int a, int b) {
        return land.hasParish(parish) ? crowd.add(parish, a, b) : NONE;
    }

    public int fits(int person) {
        return person >= 0 && person < crowd.size ? crowd.misfit(person) : NONE;
    }

    public int many(int county) {
        if (county == NONE) {
            return crowd.fittingOf(EVERYWHERE);
        }
        return isCounty(county) ? crowd.fittingOf(land.parishesOf(county)) : NO_SUCH_COUNTY;
    }

    public int suspects(int hour) {
        if (!isHour(hour) || land.start == NONE) {
            return NONE;
        }
        return crowd.fittingOf(chase.mayBe(hour));
    }

    // ---- acts, rewards

    public int sign(int v) {
        return tape.addFour(v);
    }

    public boolean end(int n) {
        return tape.cut(n);
    }

    public int act() {
        int answer = court.enact(tape);
        tape.size = 0;
        return answer;
    }

    public int repeal() {
        int were = court.acts;
        court.acts = 0;
        return were;
    }

    public int claim(int parish, int hour) {
        return land.hasParish(parish) ? court.lodge(land.counties[parish], hour) : NONE;
    }

    public int weight(int claim) {
        return claim >= 0 && claim < court.claims ? court.weigh(claim) : NONE;
    }

    public int reward(int sum) {
        return sum >= 1 && sum <= GREATEST_REWARD ? court.share(sum, told) : NONE;
    }

    public int waive() {
        int were = court.claims;
        court.claims = 0;
        return were;
    }

    public int row(int i) throws NoSuchElementException {
        if (i < 0 || i >= told.size) {
            throw new NoSuchElementException("no such number in the row");
        }
        return told.numbers[i];
    }

    // ---- what several parts use

    private boolean canAsk(int parish, int hour) {
        return land.hasParish(parish) && isHour(hour) && land.start != NONE;
    }

    private static boolean isHour(int hour) {
        return hour >= 0 && hour < HOURS;
    }

    private static boolean isCounty(int county) {
        return county >= 0 && county < COUNTIES;
    }

    private static boolean isNumber(int n) {
        return n >= 0 && n <= GREATEST_NUMBER;
    }

    private static int bit(int parish) {
        return 1 << parish;
    }

    private static boolean has(int parishes, int parish) {
        return (parishes >> parish & 1) != 0;
    }

    /** The numbers told last. A way through all hours is the longest of them. */
    private static final class Row {
        private final int[] numbers = new int[HOURS];
        private int size = 0;

        void add(int number) {
            if (size < HOURS) {
                numbers[size] = number;
                size++;
            }
        }

        void turnRound() {
            for (int i = 0; i < size / 2; i++) {
                int other = size - 1 - i;
                int kept = numbers[i];
                numbers[i] = numbers[other];
                numbers[other] = kept;
            }
        }
    }

    /** Parishes and the roads between them; sets of parishes are bits of an int. */
    private static final class Land {
        private final int[] counties = new int[MOST_PARISHES];
        private final int[] distances = new int[MOST_PARISHES];
        private final int[] from = new int[MOST_ROADS];
        private final int[] to = new int[MOST_ROADS];
        private final int[] hours = new int[MOST_ROADS];
        private final boolean[] shut = new boolean[MOST_ROADS];
        private int parishes = 0;
        private int roads = 0;
        private int exits = 0;
        private int start = NONE;

        boolean hasParish(int parish) {
            return parish >= 0 && parish < parishes;
        }

        boolean hasRoad(int road) {
            return road >= 0 && road < roads;
        }

        int addParish(int county) {
            if (!isCounty(county) || parishes >= MOST_PARISHES) {
                return NONE;
            }
            counties[parishes] = county;
            parishes++;
            return parishes - 1;
        }

        int addRoad(int a, int b, int length) {
            boolean joinsTwo = hasParish(a) && hasParish(b) && a != b;
            if (!joinsTwo || length < 1 || length > LONGEST_ROAD || roads >= MOST_ROADS) {
                return NONE;
            }
            from[roads] = a;
            to[roads] = b;
            hours[roads] = length;
            roads++;
            return roads - 1;
        }

        int parishesOf(int county) {
            int found = 0;
            for (int parish = 0; parish < parishes; parish++) {
                if (counties[parish] == county) {
                    found |= bit(parish);
                }
            }
            return found;
        }

        int startBit() {
            return start == NONE ? 0 : bit(start);
        }

        /** The parishes at which those come out who go along a road from some of the given ones. */
        int across(int road, int parishes) {
            if (shut[road]) {
                return 0;
            }
            int forth = (parishes >> from[road] & 1) << to[road];
            int back = (parishes >> to[road] & 1) << from[road];
            return forth | back;
        }

        int otherEnd(int road, int parish) {
            return from[road] == parish ? to[road] : from[road];
        }

        int shortest(int a, int b) {
            for (int parish = 0; parish < parishes; parish++) {
                distances[parish] = NONE;
            }
            distances[a] = 0;
            boolean better = true;
            // A shortest way has fewer roads than there are parishes.
            for (int round = 0; round < parishes && better; round++) {
                better = false;
                for (int road = 0; road < roads; road++) {
                    if (!shut[road]) {
                        better |= shorten(from[road], to[road], hours[road]);
                        better |= shorten(to[road], from[road], hours[road]);
                    }
                }
            }
            return distances[b];
        }

        private boolean shorten(int near, int next, int length) {
            if (distances[near] == NONE) {
                return false;
            }
            int way = distances[near] + length;
            if (distances[next] != NONE && distances[next] <= way) {
                return false;
            }
            distances[next] = way;
            return true;
        }
    }

    private static final class Facts {
        private final int[] kinds = new int[MOST_FACTS];
        private final int[] spots = new int[MOST_FACTS];
        private final int[] hours = new int[MOST_FACTS];
        private final boolean[] struck = new boolean[MOST_FACTS];
        private int size = 0;

        int add(int kind, int spot, int hour) {
            if (!isHour(hour) || size >= MOST_FACTS) {
                return NONE;
            }
            kinds[size] = kind;
            spots[size] = spot;
            hours[size] = hour;
            size++;
            return size - 1;
        }

        int standing() {
            int found = 0;
            for (int fact = 0; fact < size; fact++) {
                if (!struck[fact]) {
                    found++;
                }
            }
            return found;
        }
    }

    /** Where he may be at each hour, as far as facts allow. */
    private static final class Chase {
        private final Land land = new Land();
        private final Facts facts = new Facts();
        /** The parishes at which facts let him be, hour by hour. */
        private final int[] allowed = new int[HOURS];
        /** The hours, as bits, at which facts forbid that he is on a road. */
        private final long[] barred = new long[MOST_ROADS];
        /** The parishes that he may have come to, hour by hour. */
        private final int[] reached = new int[HOURS];
        /** The parishes from which he can go on to the last hour, hour by hour. */
        private final int[] onward = new int[HOURS];

        int mayBe(int hour) {
            heed(hour, NONE);
            spread(0, hour, 0);
            return reached[hour];
        }

        int mayHaveBeen(int hour) {
            heed(LAST_HOUR, NONE);
            spread(0, hour, 0);
            lookOnward(hour);
            return reached[hour] & onward[hour];
        }

        /** One pass serves all hours: facts of later hours take nothing from earlier sets. */
        int firstHour(int parish) {
            heed(LAST_HOUR, NONE);
            for (int hour = 0; hour < HOURS; hour++) {
                spread(hour, hour, 0);
                if (has(reached[hour], parish)) {
                    return hour;
                }
            }
            return NONE;
        }

        boolean someAgrees() {
            heed(LAST_HOUR, NONE);
            lookOnward(0);
            return (onward[0] & land.startBit()) != 0;
        }

        /** The facts, as bits, without one of which some journey agrees. */
        long menders() {
            heed(LAST_HOUR, NONE);
            spread(0, LAST_HOUR, 0);
            lookOnward(0);
            long found = 0;
            for (int fact = 0; fact < facts.size; fact++) {
                if (!facts.struck[fact] && mends(fact)) {
                    found |= 1L << fact;
                }
            }
            return found;
        }

        /** A fact bears on its hour alone: what was reached before it and is onward after it stands. */
        private boolean mends(int fact) {
            heed(LAST_HOUR, fact);
            int hour = facts.hours[fact];
            return (cameAt(hour) & goesOnAt(hour)) != 0 || isUnderWay(hour);
        }

        /** Whether some journey that agrees is on a road at an hour. */
        private boolean isUnderWay(int hour) {
            for (int road = 0; road < land.roads; road++) {
                for (int left = Math.max(0, hour - land.hours[road] + 1); left < hour; left++) {
                    if ((reached[left] & departuresBy(road, left)) != 0) {
                        return true;
                    }
                }
            }
            return false;
        }

        /** Takes in the facts of hours up to the last one, but for the spared. */
        void heed(int last, int spared) {
            for (int hour = 0; hour < HOURS; hour++) {
                allowed[hour] = EVERYWHERE;
            }
            for (int road = 0; road < land.roads; road++) {
                barred[road] = 0;
            }
            long seenHours = 0;
            for (int fact = 0; fact < facts.size; fact++) {
                if (!facts.struck[fact] && fact != spared && facts.hours[fact] <= last) {
                    seenHours |= heedOne(fact);
                }
            }
            for (int road = 0; road < land.roads; road++) {
                barred[road] |= seenHours;
            }
        }

        /** The hour, as a bit, if it is one at which he was seen: no road can have him then. */
        private long heedOne(int fact) {
            int spot = facts.spots[fact];
            int hour = facts.hours[fact];
            switch (facts.kinds[fact]) {
                case SEEN:
                    allowed[hour] &= bit(spot);
                    return 1L << hour;
                case VAIN:
                    allowed[hour] &= ~bit(spot);
                    return 0;
                default:
                    barred[spot] |= 1L << hour;
                    return 0;
            }
        }

        /** Fills what he may have reached, for some hours, keeping off the shunned parishes. */
        void spread(int first, int last, int shunned) {
            for (int hour = first; hour <= last; hour++) {
                reached[hour] = cameAt(hour) & ~shunned;
            }
        }

        private int cameAt(int hour) {
            if (hour == 0) {
                return land.startBit() & allowed[hour];
            }
            int come = reached[hour - 1];
            for (int road = 0; road < land.roads; road++) {
                come |= arrivalsBy(road, hour);
            }
            return come & allowed[hour];
        }

        private int arrivalsBy(int road, int hour) {
            int left = hour - land.hours[road];
            if (left < 0 || !isClear(road, left, hour)) {
                return 0;
            }
            return land.across(road, reached[left]);
        }

        private void lookOnward(int first) {
            for (int hour = LAST_HOUR; hour >= first; hour--) {
                onward[hour] = goesOnAt(hour);
            }
        }

        private int goesOnAt(int hour) {
            if (hour == LAST_HOUR) {
                return allowed[hour];
            }
            int can = onward[hour + 1];
            for (int road = 0; road < land.roads; road++) {
                can |= departuresBy(road, hour);
            }
            return can & allowed[hour];
        }

        private int departuresBy(int road, int hour) {
            // No fact can forbid where he comes out after the last hour.
            int there = Math.min(hour + land.hours[road], HOURS);
            if (!isClear(road, hour, there)) {
                return 0;
            }
            return land.across(road, there == HOURS ? EVERYWHERE : onward[there]);
        }

        private boolean isClear(int road, int left, int there) {
            long between = (1L << there) - (1L << left + 1);
            return (barred[road] & between) == 0;
        }

        /** The road by which he came to a parish at an hour above 0; NONE: he stayed there. */
        private int cameBy(int parish, int hour) {
            if (has(reached[hour - 1], parish)) {
                return NONE;
            }
            for (int road = 0; road < land.roads; road++) {
                if (has(arrivalsBy(road, hour), parish)) {
                    return road;
                }
            }
            return NONE;
        }

        void tellWay(int parish, int hour, Row row) {
            row.size = 0;
            row.add(parish);
            int at = parish;
            int now = hour;
            for (int step = 0; step < HOURS && now > 0; step++) {
                int road = cameBy(at, now);
                if (road == NONE) {
                    now--;
                } else {
                    now -= land.hours[road];
                    at = land.otherEnd(road, at);
                    row.add(at);
                }
            }
            row.turnRound();
        }

        /** The parishes, as bits, at which a way to a parish has him from an hour on. */
        int wayBits(int parish, int hour, int since) {
            int way = bit(parish);
            int at = parish;
            int now = hour;
            for (int step = 0; step < HOURS && now > since; step++) {
                int road = cameBy(at, now);
                if (road == NONE) {
                    now--;
                } else {
                    now -= land.hours[road];
                    at = land.otherEnd(road, at);
                    way |= now >= since ? bit(at) : 0;
                }
            }
            return way;
        }
    }

    /** Seeks the fewest parishes to watch. */
    private static final class Patrol {
        private final Chase chase = new Chase();
        private final Land land = chase.land;
        private final int[] picks = new int[MOST_WATCHED];
        /**
         * Ways out found so far, as bits of parishes: a row that watches none of a way's
         * parishes leaves it open, and needs no search of its own.
         */
        private final int[] ways = new int[MOST_WAYS];
        private int found = 0;
        private int since = 0;
        private int until = 0;

        int fewest(int t, int u) {
            since = t;
            until = u;
            found = 0;
            chase.heed(since, NONE);
            chase.spread(0, since - 1, 0);
            for (int size = 0; size <= MOST_WATCHED && size <= land.parishes; size++) {
                pickLowest(size);
                boolean more = true;
                for (int tried = 0; tried < MOST_ROWS && more; tried++) {
                    int watched = picked(size);
                    if (!misses(watched) && !escapes(watched)) {
                        return size;
                    }
                    more = pickNext(size);
                }
            }
            return NOT_ENOUGH;
        }

        void tellPicks(int size, Row row) {
            row.size = 0;
            for (int i = 0; i < size && i < MOST_WATCHED; i++) {
                row.add(picks[i]);
            }
        }

        private void pickLowest(int size) {
            for (int i = 0; i < size; i++) {
                picks[i] = i;
            }
        }

        private boolean pickNext(int size) {
            for (int i = size - 1; i >= 0; i--) {
                if (picks[i] < land.parishes - size + i) {
                    picks[i]++;
                    for (int j = i + 1; j < size; j++) {
                        picks[j] = picks[j - 1] + 1;
                    }
                    return true;
                }
            }
            return false;
        }

        private int picked(int size) {
            int watched = 0;
            for (int i = 0; i < size; i++) {
                watched |= bit(picks[i]);
            }
            return watched;
        }

        /** Whether some way out that was found goes by none of the watched parishes. */
        private boolean misses(int watched) {
            for (int i = 0; i < found && i < MOST_WAYS; i++) {
                if ((ways[i] & watched) == 0) {
                    return true;
                }
            }
            return false;
        }

        private boolean escapes(int watched) {
            for (int hour = since; hour <= until; hour++) {
                chase.spread(hour, hour, watched);
                int out = chase.reached[hour] & land.exits;
                if (out != 0) {
                    int way = chase.wayBits(Integer.numberOfTrailingZeros(out), hour, since);
                    ways[found % MOST_WAYS] = way;
                    found++;
                    return true;
                }
            }
            return false;
        }
    }

    private static final class Description {
        private final int[] values = new int[TRAITS];
        private final int[] blurs = new int[TRAITS];

        Description() {
            for (int trait = 0; trait < TRAITS; trait++) {
                values[trait] = NONE;
            }
        }

        boolean set(int trait, int value, int blur) {
            boolean isTrait = trait >= 0 && trait < TRAITS;
            boolean isValue = value == NONE || isNumber(value);
            if (!isTrait || !isValue || !isNumber(blur)) {
                return false;
            }
            values[trait] = value;
            blurs[trait] = blur;
            return true;
        }

        int tellOn(int n) {
            int sum = 0;
            for (int trait = 0; trait < TRAITS; trait++) {
                if (values[trait] != NONE) {
                    blurs[trait] = Math.min(blurs[trait] + n, GREATEST_NUMBER);
                    sum += blurs[trait];
                }
            }
            return sum;
        }

        boolean agrees(int trait, int number) {
            return values[trait] == NONE || Math.abs(number - values[trait]) <= blurs[trait];
        }
    }

    private static final class Crowd {
        private final Description description = new Description();
        private final int[] homes = new int[MOST_PERSONS];
        /** Five bits for each trait, trait 0 the highest. */
        private final int[] looks = new int[MOST_PERSONS];
        private int size = 0;

        int add(int parish, int a, int b) {
            boolean inRange = a >= 0 && a <= GREATEST_TRIPLE && b >= 0 && b <= GREATEST_TRIPLE;
            if (!inRange || size >= MOST_PERSONS) {
                return NONE;
            }
            homes[size] = parish;
            looks[size] = a << 15 | b;
            size++;
            return size - 1;
        }

        /** 0: the person fits; else 1 and the first trait that doesn't. */
        int misfit(int person) {
            for (int trait = 0; trait < TRAITS; trait++) {
                int number = looks[person] >> 5 * (TRAITS - 1 - trait) & GREATEST_NUMBER;
                if (!description.agrees(trait, number)) {
                    return 1 + trait;
                }
            }
            return 0;
        }

        int fittingOf(int parishes) {
            int found = 0;
            for (int person = 0; person < size; person++) {
                if (has(parishes, homes[person]) && misfit(person) == 0) {
                    found++;
                }
            }
            return found;
        }
    }

    private static final class Tape {
        private final int[] signs = new int[TAPE_LENGTH];
        private int size = 0;

        int addFour(int v) {
            if (size + 4 > TAPE_LENGTH) {
                return NONE;
            }
            for (int shift = 24; shift >= 0; shift -= 8) {
                signs[size] = v >>> shift & 255;
                size++;
            }
            return size;
        }

        boolean cut(int n) {
            if (n < 0 || n > size) {
                return false;
            }
            size = n;
            return true;
        }
    }

    /** An act, read sign by sign. */
    private static final class Act {
        private static final int AT_LETTER = 0;
        private static final int AT_COMPARISON = 1;
        private static final int IN_NUMBER = 2;
        private static final int IN_WEIGHT = 3;

        private final int[] letters = new int[MOST_ASKS];
        private final int[] comparisons = new int[MOST_ASKS];
        private final int[] numbers = new int[MOST_ASKS];
        private int asks = 0;
        private int weight = 0;
        private int state = AT_LETTER;
        private int digits = 0;

        /** NONE: the tape is an act; else the place of the first sign that can't stand there. */
        int read(Tape tape) {
            asks = 0;
            weight = 0;
            state = AT_LETTER;
            for (int place = 0; place < tape.size; place++) {
                if (place >= ACT_LENGTH || !takes(tape.signs[place])) {
                    return place;
                }
            }
            return state == IN_WEIGHT && digits > 0 ? NONE : tape.size;
        }

        private boolean takes(int sign) {
            switch (state) {
                case AT_LETTER: return takesLetter(sign);
                case AT_COMPARISON: return takesComparison(sign);
                case IN_NUMBER: return takesInNumber(sign);
                default: return takesInWeight(sign);
            }
        }

        private boolean takesLetter(int sign) {
            boolean isLetter = sign == 'n' || sign == 'h' || sign == 'c';
            if (!isLetter || asks >= MOST_ASKS) {
                return false;
            }
            letters[asks] = sign;
            state = AT_COMPARISON;
            return true;
        }

        private boolean takesComparison(int sign) {
            boolean isComparison = sign == '<' || sign == '>' || sign == '=';
            if (!isComparison || asks >= MOST_ASKS) {
                return false;
            }
            comparisons[asks] = sign;
            numbers[asks] = 0;
            digits = 0;
            state = IN_NUMBER;
            return true;
        }

        private boolean takesInNumber(int sign) {
            if (asks >= MOST_ASKS) {
                return false;
            }
            if (isDigit(sign) && digits < MOST_DIGITS) {
                numbers[asks] = numbers[asks] * 10 + sign - '0';
                digits++;
                return true;
            }
            if (digits == 0 || sign != '&' && sign != ':') {
                return false;
            }
            asks++;
            digits = 0;
            state = sign == '&' ? AT_LETTER : IN_WEIGHT;
            return true;
        }

        private boolean takesInWeight(int sign) {
            if (!isDigit(sign) || digits >= MOST_DIGITS) {
                return false;
            }
            weight = weight * 10 + sign - '0';
            digits++;
            return true;
        }

        private static boolean isDigit(int sign) {
            return sign >= '0' && sign <= '9';
        }

        boolean isFor(int claim, int hour, int county) {
            for (int ask = 0; ask < asks && ask < MOST_ASKS; ask++) {
                int asked = letters[ask] == 'n' ? claim : letters[ask] == 'h' ? hour : county;
                if (!isSo(asked, comparisons[ask], numbers[ask])) {
                    return false;
                }
            }
            return true;
        }

        private static boolean isSo(int asked, int comparison, int number) {
            switch (comparison) {
                case '<': return asked < number;
                case '>': return asked > number;
                default: return asked == number;
            }
        }
    }

    /** Acts, claims, and the parting of a reward. */
    private static final class Court {
        private final Act[] book = new Act[MOST_ACTS];
        private final int[] counties = new int[MOST_CLAIMS];
        private final int[] hours = new int[MOST_CLAIMS];
        private final int[] weights = new int[MOST_CLAIMS];
        private int acts = 0;
        private int claims = 0;

        Court() {
            for (int i = 0; i < MOST_ACTS; i++) {
                book[i] = new Act();
            }
        }

        int enact(Tape tape) {
            if (acts >= MOST_ACTS) {
                return ACTS_FULL;
            }
            int place = book[acts].read(tape);
            if (place != NONE) {
                return -1 - place;
            }
            acts++;
            return acts - 1;
        }

        int lodge(int county, int hour) {
            if (!isHour(hour) || claims >= MOST_CLAIMS) {
                return NONE;
            }
            counties[claims] = county;
            hours[claims] = hour;
            claims++;
            return claims - 1;
        }

        int weigh(int claim) {
            for (int i = 0; i < acts; i++) {
                if (book[i].isFor(claim, hours[claim], counties[claim])) {
                    return book[i].weight;
                }
            }
            return 0;
        }

        /** Parts a reward into the row; how much of it is given. */
        int share(int reward, Row row) {
            int sum = 0;
            int heaviest = 0;
            for (int claim = 0; claim < claims; claim++) {
                weights[claim] = weigh(claim);
                sum += weights[claim];
                if (weights[claim] > weights[heaviest]) {
                    heaviest = claim;
                }
            }
            row.size = 0;
            int left = reward;
            for (int claim = 0; claim < claims; claim++) {
                int part = sum == 0 ? 0 : reward * weights[claim] / sum;
                row.add(part);
                left -= part;
            }
            if (sum == 0) {
                return 0;
            }
            row.numbers[heaviest] += left;
            return reward;
        }
    }
}
