import java.util.NoSuchElementException;

/** Each promise by hand: ordinary inputs, the edges that the document names, wrong inputs. */
public final class PromiseTest {
    private static final int LOW = Integer.MIN_VALUE;
    private static final int HIGH = Integer.MAX_VALUE;
    private static int wrong = 0;
    private static int promise = 0;

    private static void due(String what, long got, long want) {
        if (got != want) {
            wrong++;
            System.out.println("promise " + promise + ": " + what + " answered " + got + ", due is " + want);
        }
    }

    private static void due(String what, boolean got, boolean want) {
        due(what, got ? 1 : 0, want ? 1 : 0);
    }

    private static void dueRow(String what, HueAndCry x, int... want) {
        due(what + ": length of the row", x.count(7), want.length);
        for (int i = 0; i < want.length; i++) {
            due(what + ": row(" + i + ")", number(x, i), want[i]);
        }
        due(what + ": row behind its end", number(x, want.length), Long.MIN_VALUE);
    }

    /** Number i of the row; the least long, if the call throws what is due. */
    private static long number(HueAndCry x, int i) {
        try {
            return x.row(i);
        } catch (NoSuchElementException e) {
            return Long.MIN_VALUE;
        }
    }

    /** Parishes of county 0 and roads, three numbers each: two ends, hours. He starts at 0. */
    private static HueAndCry land(int parishes, int... roads) {
        HueAndCry x = new HueAndCry();
        for (int i = 0; i < parishes; i++) {
            x.parish(0);
        }
        for (int i = 0; i < roads.length; i += 3) {
            x.road(roads[i], roads[i + 1], roads[i + 2]);
        }
        x.begin(0);
        return x;
    }

    private static void put(HueAndCry x, String text) {
        int from = x.count(8);
        for (int i = 0; i < text.length(); i += 4) {
            int v = 0;
            for (int j = i; j < i + 4; j++) {
                v = v << 8 | (j < text.length() ? text.charAt(j) & 255 : 0);
            }
            x.sign(v);
        }
        x.end(from + text.length());
    }

    private static int enact(HueAndCry x, String text) {
        put(x, text);
        return x.act();
    }

    public static void main(String[] args) {
        promise = 1; newObject();
        promise = 2; parish();
        promise = 3; road();
        promise = 4; shut();
        promise = 5; exit();
        promise = 6; begin();
        promise = 7; count();
        promise = 8; far();
        promise = 9; seen();
        promise = 10; vain();
        promise = 11; guarded();
        promise = 12; strike();
        promise = 13; may();
        promise = 14; was();
        promise = 15; places();
        promise = 16; first();
        promise = 17; trail();
        promise = 18; quarrel();
        promise = 19; watch(); watchFacts(); watchRows();
        promise = 20; trait();
        promise = 21; telling();
        promise = 22; person();
        promise = 23; fits();
        promise = 24; many();
        promise = 25; suspects();
        promise = 26; sign();
        promise = 27; end();
        promise = 28; act(); actPlaces(); actLength();
        promise = 29; repeal();
        promise = 30; claim();
        promise = 31; weight();
        promise = 32; reward();
        promise = 33; waive();
        promise = 34; row();
        promise = 0; allFull();
        System.out.println(wrong == 0 ? "all promises are kept" : wrong + " answers are not as due");
        if (wrong != 0) {
            System.exit(1);
        }
    }

    private static void newObject() {
        HueAndCry x = new HueAndCry();
        for (int what = 0; what <= 8; what++) {
            due("count(" + what + ")", x.count(what), 0);
        }
        due("count(9)", x.count(9), -1);
        due("fits(0)", x.fits(0), -1);
        due("weight(0)", x.weight(0), -1);
        due("telling(5): no trait has a value", x.telling(5), 0);
        due("many(NONE)", x.many(-1), 0);
        due("row(0)", number(x, 0), Long.MIN_VALUE);
        HueAndCry other = new HueAndCry();
        x.parish(0);
        due("another object's parishes", other.count(0), 0);
    }

    private static void parish() {
        HueAndCry x = new HueAndCry();
        for (int county : new int[] {-1, 6, LOW, HIGH}) {
            due("parish(" + county + ")", x.parish(county), -1);
        }
        for (int i = 0; i < 24; i++) {
            due("parish", x.parish(i % 6), i);
        }
        due("the 25th", x.parish(0), -1);
        due("count", x.count(0), 24);
        x.begin(0);
        due("no exit, so nothing to watch", x.watch(0, 47), 0);
    }

    private static void road() {
        HueAndCry x = land(3);
        int[][] bad = {{0, 0, 1}, {-1, 0, 1}, {0, -1, 1}, {3, 0, 1}, {0, 3, 1}, {0, 1, 0}, {0, 1, 13},
            {0, 1, -1}, {LOW, HIGH, 1}, {0, 1, HIGH}, {0, 1, LOW}};
        for (int[] b : bad) {
            due("road(" + b[0] + ", " + b[1] + ", " + b[2] + ")", x.road(b[0], b[1], b[2]), -1);
        }
        due("road(0, 1, 12)", x.road(0, 1, 12), 0);
        due("road(1, 0, 1), between the same two", x.road(1, 0, 1), 1);
        due("far", x.far(0, 1), 1);
        for (int i = 2; i < 40; i++) {
            due("road", x.road(1, 2, 1), i);
        }
        due("the 41st", x.road(0, 2, 1), -1);
        due("count", x.count(1), 40);
    }

    private static void shut() {
        HueAndCry x = land(2, 0, 1, 2);
        due("a new road is open", x.may(1, 2), 1);
        due("shut(0, true)", x.shut(0, true), true);
        due("may", x.may(1, 47), 0);
        due("shut again", x.shut(0, true), true);
        due("shut(0, false)", x.shut(0, false), true);
        due("may", x.may(1, 2), 1);
        for (int road : new int[] {-1, 1, LOW, HIGH}) {
            due("shut(" + road + ")", x.shut(road, true), false);
        }
        due("may still", x.may(1, 2), 1);
    }

    private static void exit() {
        HueAndCry x = land(2, 0, 1, 1);
        due("exit(1, true)", x.exit(1, true), true);
        due("watch", x.watch(0, 5), 1);
        due("exit(1, false)", x.exit(1, false), true);
        due("watch", x.watch(0, 5), 0);
        due("exit(1, false) again", x.exit(1, false), true);
        for (int p : new int[] {-1, 2, 32, LOW, HIGH}) {
            due("exit(" + p + ")", x.exit(p, true), false);
        }
        due("watch still", x.watch(0, 5), 0);
    }

    private static void begin() {
        HueAndCry x = new HueAndCry();
        due("begin(0)", x.begin(0), false);
        due("no start", x.count(9), -1);
        x.parish(0);
        x.parish(0);
        due("begin(1)", x.begin(1), true);
        due("start", x.count(9), 1);
        due("begin(2)", x.begin(2), false);
        due("begin(-1)", x.begin(-1), false);
        due("start still", x.count(9), 1);
        x.seen(1, 3);
        due("may(1, 3)", x.may(1, 3), 1);
        due("begin(0)", x.begin(0), true);
        due("facts stay", x.count(2), 1);
        due("may(1, 3)", x.may(1, 3), 0);
        due("may(0, 2)", x.may(0, 2), 1);
    }

    private static void count() {
        HueAndCry x = land(3, 0, 1, 1, 1, 2, 1);
        x.seen(0, 0);
        x.vain(1, 0);
        x.strike(1, true);
        x.person(0, 0, 0);
        enact(x, "n=0:1");
        x.claim(0, 0);
        x.claim(1, 0);
        x.reward(10);
        x.sign(0);
        int[] want = {3, 2, 2, 1, 1, 1, 2, 2, 4, 0};
        for (int what = 0; what < 10; what++) {
            due("count(" + what + ")", x.count(what), want[what]);
        }
        for (int what : new int[] {-1, 10, LOW, HIGH}) {
            due("count(" + what + ")", x.count(what), -1);
        }
    }

    private static void far() {
        HueAndCry x = land(5, 0, 1, 12, 0, 2, 3, 2, 1, 4, 1, 3, 12, 0, 1, 11);
        due("around is shorter", x.far(0, 1), 7);
        due("back", x.far(1, 0), 7);
        due("on", x.far(0, 3), 19);
        due("itself", x.far(4, 4), 0);
        due("no way", x.far(0, 4), -1);
        x.shut(1, true);
        due("of several the shortest", x.far(0, 1), 11);
        due("the other way", x.far(0, 2), 15);
        x.shut(3, true);
        due("cut off", x.far(0, 3), -1);
        int[][] bad = {{-1, 0}, {0, -1}, {5, 5}, {0, 5}, {-1, -1}, {LOW, HIGH}};
        for (int[] b : bad) {
            due("far(" + b[0] + ", " + b[1] + ")", x.far(b[0], b[1]), -1);
        }
        HueAndCry line = new HueAndCry();
        for (int i = 0; i < 24; i++) {
            line.parish(0);
        }
        for (int i = 22; i >= 0; i--) {
            line.road(i, i + 1, 12);
        }
        due("the longest line", line.far(0, 23), 276);
        due("and back", line.far(23, 0), 276);
    }

    private static void badFacts(HueAndCry x, boolean ofRoad) {
        int[][] bad = {{-1, 0}, {2, 0}, {0, -1}, {0, 48}, {LOW, 0}, {HIGH, 0}, {0, LOW}, {0, HIGH}};
        for (int[] b : bad) {
            String call = "(" + b[0] + ", " + b[1] + ")";
            due(call, ofRoad ? x.guarded(b[0], b[1]) : promise == 9 ? x.seen(b[0], b[1]) : x.vain(b[0], b[1]), -1);
        }
        due("none was kept", x.count(2), 0);
    }

    private static void seen() {
        HueAndCry x = land(2, 0, 1, 3);
        badFacts(x, false);
        due("seen(0, 2)", x.seen(0, 2), 0);
        due("he was not on the road at 2", x.first(1), 5);
        due("at 2 he is nowhere else", x.places(2, 0), 1);
        due("seen(1, 2)", x.seen(1, 2), 1);
        due("two places at once", x.places(2, 0), 0);
        for (int i = 2; i < 40; i++) {
            due("seen", x.seen(0, 47), i);
        }
        due("the 41st", x.seen(0, 0), -1);
        due("nor vain", x.vain(0, 0), -1);
        due("nor guarded", x.guarded(0, 0), -1);
        HueAndCry late = land(2, 0, 1, 3);
        late.seen(1, 0);
        due("seen elsewhere at hour 0", late.may(0, 0), 0);
    }

    private static void vain() {
        HueAndCry x = land(2, 0, 1, 3);
        badFacts(x, false);
        due("vain(0, 2)", x.vain(0, 2), 0);
        due("he must have gone by then", x.places(2, 0), 0);
        due("on the road he may be", x.places(3, 0), 2);
        due("and come", x.places(4, 0), 2);
        due("and be back", x.places(6, 0), 3);
        x.vain(0, 0);
        due("not at the start at hour 0", x.may(0, 0), 0);
        due("nor anywhere", x.places(20, 0), 0);
        for (int i = 2; i < 40; i++) {
            due("vain", x.vain(1, 47), i);
        }
        due("the 41st", x.vain(0, 0), -1);
    }

    private static void guarded() {
        HueAndCry x = land(2, 0, 1, 3, 0, 1, 1);
        badFacts(x, true);
        x.shut(1, true);
        due("guarded(0, 3)", x.guarded(0, 3), 0);
        due("begun at 0: there at 3, not on the road", x.may(1, 3), 1);
        x.vain(1, 3);
        due("begun at 1, on the road at 3", x.may(1, 4), 0);
        due("begun at 2, on the road at 3", x.may(1, 5), 0);
        due("begun at 3, not on the road at 3", x.may(1, 6), 1);
        x.shut(1, false);
        x.guarded(1, 5);
        due("on a road of one hour he never is", x.may(1, 5), 1);
        HueAndCry twice = land(2, 0, 1, 3);
        twice.guarded(0, 1);
        twice.guarded(0, 3);
        due("two guards of one road", twice.places(5, 0), 1);
        due("between them he has no time", twice.first(1), 6);
        for (int i = 3; i < 40; i++) {
            due("guarded", x.guarded(0, 0), i);
        }
        due("the 41st", x.guarded(0, 0), -1);
        due("hour 0 is never on a road", x.count(3), 40);
    }

    private static void strike() {
        HueAndCry x = land(2, 0, 1, 1);
        x.seen(1, 5);
        x.vain(1, 6);
        due("strike(0, true)", x.strike(0, true), true);
        due("count(3)", x.count(3), 1);
        due("count(2)", x.count(2), 2);
        due("may(0, 5)", x.may(0, 5), 1);
        due("strike(0, true) again", x.strike(0, true), true);
        due("count(3)", x.count(3), 1);
        due("strike(0, false)", x.strike(0, false), true);
        due("may(0, 5)", x.may(0, 5), 0);
        for (int fact : new int[] {-1, 2, 40, LOW, HIGH}) {
            due("strike(" + fact + ")", x.strike(fact, true), false);
        }
        due("count(3)", x.count(3), 2);
    }

    private static void badAsks(HueAndCry x, boolean ofMay) {
        int[][] bad = {{-1, 0}, {2, 0}, {0, -1}, {0, 48}, {LOW, HIGH}, {32, 0}};
        for (int[] b : bad) {
            due("(" + b[0] + ", " + b[1] + ")", ofMay ? x.may(b[0], b[1]) : x.was(b[0], b[1]), -1);
        }
        HueAndCry still = new HueAndCry();
        still.parish(0);
        due("no start", ofMay ? still.may(0, 0) : still.was(0, 0), -1);
    }

    private static void may() {
        HueAndCry x = land(2, 0, 1, 5);
        badAsks(x, true);
        due("may(0, 0)", x.may(0, 0), 1);
        due("may(1, 4)", x.may(1, 4), 0);
        due("may(1, 5)", x.may(1, 5), 1);
        x.seen(0, 7);
        due("later facts don't matter", x.may(1, 5), 1);
        due("that hour's do", x.may(1, 7), 0);
        due("earlier ones do", x.may(1, 11), 0);
        due("he goes again", x.may(1, 12), 1);
        x.vain(0, 47);
        due("may(0, 47)", x.may(0, 47), 0);
        due("may(1, 47)", x.may(1, 47), 1);
    }

    private static void was() {
        HueAndCry x = land(2, 0, 1, 5);
        badAsks(x, false);
        x.seen(0, 12);
        due("there and back", x.was(1, 7), 1);
        due("too late to be back", x.was(1, 8), 0);
        due("still he may be there", x.may(1, 8), 1);
        due("too early", x.was(1, 4), 0);
        HueAndCry end = land(2, 0, 1, 5);
        end.vain(0, 47);
        due("he may be on the road at the end", end.was(0, 46), 1);
        due("he is not there at the end", end.was(0, 47), 0);
        end.vain(1, 47);
        due("still", end.was(0, 46), 1);
        end.guarded(0, 47);
        due("the road was guarded", end.was(0, 46), 0);
        due("whenever he left", end.places(0, 1), 0);
        HueAndCry past = land(2, 0, 1, 5);
        past.guarded(0, 46);
        past.vain(0, 47);
        past.vain(1, 47);
        due("left at 46: on the road at 47 alone", past.was(0, 46), 1);
        due("left at 46 from the other parish", past.was(1, 46), 1);
        due("left behind 46 is too late", past.places(47, 1), 0);
    }

    private static void places() {
        HueAndCry x = land(24, 0, 23, 1, 23, 7, 2);
        due("places(0, 0)", x.places(0, 0), 1);
        due("places(3, 0)", x.places(3, 0), 1 | 1 << 23 | 1 << 7);
        x.seen(7, 4);
        due("places(3, 0)", x.places(3, 0), 1 | 1 << 23 | 1 << 7);
        due("places(3, 1)", x.places(3, 1), 1 << 7);
        due("places(1, 1)", x.places(1, 1), 1 | 1 << 23);
        int[][] bad = {{-1, 0}, {48, 0}, {0, -1}, {0, 2}, {LOW, 0}, {0, HIGH}};
        for (int[] b : bad) {
            due("places(" + b[0] + ", " + b[1] + ")", x.places(b[0], b[1]), -1);
        }
        HueAndCry still = new HueAndCry();
        still.parish(0);
        due("no start", still.places(0, 0), -1);
        due("no start", still.places(0, 1), -1);
    }

    private static void first() {
        HueAndCry x = land(4, 0, 1, 12, 1, 2, 12);
        due("first(0)", x.first(0), 0);
        due("first(2)", x.first(2), 24);
        due("no way", x.first(3), -1);
        due("first(-1)", x.first(-1), -1);
        due("first(4)", x.first(4), -1);
        x.vain(2, 24);
        due("he could have waited", x.first(2), 25);
        x.seen(1, 40);
        due("later facts don't matter", x.first(2), 25);
        x.vain(0, 0);
        due("never", x.first(0), -1);
        HueAndCry still = new HueAndCry();
        still.parish(0);
        due("no start", still.first(0), -1);
        HueAndCry edge = land(5, 0, 1, 12, 1, 2, 12, 2, 3, 12, 3, 4, 11);
        due("the last hour", edge.first(4), 47);
        HueAndCry over = land(5, 0, 1, 12, 1, 2, 12, 2, 3, 12, 3, 4, 12);
        due("an hour behind it", over.first(4), -1);
    }

    private static void trail() {
        HueAndCry x = land(5, 0, 1, 3, 0, 2, 1, 2, 1, 2, 1, 3, 1, 0, 1, 3);
        due("at the start", x.trail(0, 0), 1);
        dueRow("at the start", x, 0);
        due("by the road of the least number", x.trail(1, 3), 2);
        dueRow("least number", x, 0, 1);
        x.guarded(0, 1);
        due("then by road 2", x.trail(1, 3), 3);
        dueRow("by road 2", x, 0, 2, 1);
        x.guarded(2, 2);
        due("then by road 4", x.trail(1, 3), 2);
        x.shut(4, true);
        due("then he may not be there", x.trail(1, 3), 0);
        dueRow("the row stays", x, 0, 1);
        due("he comes at 4", x.trail(3, 9), 3);
        dueRow("he stayed as late as he may", x, 0, 1, 3);
        due("trail(4, 47)", x.trail(4, 47), 0);
        int[][] bad = {{-1, 0}, {5, 0}, {0, -1}, {0, 48}};
        for (int[] b : bad) {
            due("trail(" + b[0] + ", " + b[1] + ")", x.trail(b[0], b[1]), -1);
        }
        dueRow("the row stays", x, 0, 1, 3);
        HueAndCry back = land(2, 0, 1, 1);
        for (int hour = 1; hour < 40; hour++) {
            back.vain(hour % 2 == 0 ? 1 : 0, hour);
        }
        due("to and fro", back.trail(1, 39), 40);
        due("first of the row", number(back, 0), 0);
        due("last of the row", number(back, 39), 1);
        back.strike(20, true);
        back.seen(1, 47);
        due("seen later matters not", back.trail(0, 2), 3);
        dueRow("to and fro", back, 0, 1, 0);
        HueAndCry still = new HueAndCry();
        still.parish(0);
        due("no start", still.trail(0, 0), -1);
    }

    private static void quarrel() {
        HueAndCry still = new HueAndCry();
        still.parish(0);
        still.vain(0, 0);
        due("no start", still.quarrel(), 0);
        still.begin(0);
        due("vain at the start", still.quarrel(), 1);
        HueAndCry x = land(3, 0, 1, 2, 1, 2, 2);
        due("no facts", x.quarrel(), -1);
        x.seen(0, 10);
        x.vain(2, 11);
        x.seen(2, 13);
        due("0 and 2 quarrel", x.quarrel(), 5);
        x.strike(0, true);
        due("one struck", x.quarrel(), -1);
        x.seen(0, 10);
        due("a struck fact is not told", x.quarrel(), 12);
        x.seen(1, 30);
        x.seen(0, 30);
        due("no one fact mends it", x.quarrel(), 0);
        HueAndCry end = land(2, 0, 1, 2);
        end.vain(0, 47);
        end.vain(1, 47);
        due("on the road at the end", end.quarrel(), -1);
        end.guarded(0, 47);
        due("not even there", end.quarrel(), 7);
        HueAndCry full = land(2, 0, 1, 2);
        for (int i = 0; i < 39; i++) {
            full.vain(1, i);
        }
        full.seen(1, 5);
        due("fact 39 as a long's bit", full.quarrel(), 1L << 39 | 1L << 5);
    }

    private static void watch() {
        HueAndCry x = land(5, 0, 1, 1, 0, 2, 1, 1, 3, 2, 2, 3, 2, 3, 4, 1);
        due("no exit", x.watch(0, 47), 0);
        dueRow("no exit", x);
        x.exit(4, true);
        due("he does not get so far", x.watch(0, 3), 0);
        due("watch(0, 4)", x.watch(0, 4), 1);
        dueRow("where he starts", x, 0);
        due("watch(1, 9)", x.watch(1, 9), 1);
        dueRow("where the roads meet", x, 3);
        due("watch(3, 3), no one gets out then", x.watch(3, 3), 0);
        due("watch(4, 4)", x.watch(4, 4), 1);
        dueRow("watched at that hour alone", x, 4);
        x.reward(5);
        int[][] bad = {{-1, 0}, {0, 48}, {5, 4}, {48, 48}, {LOW, HIGH}, {-2, -1}};
        for (int[] b : bad) {
            due("watch(" + b[0] + ", " + b[1] + ")", x.watch(b[0], b[1]), -1);
        }
        due("watch(47, 47)", x.watch(47, 47), 1);
        HueAndCry still = new HueAndCry();
        still.parish(0);
        due("no start", still.watch(0, 0), -1);
        HueAndCry alone = land(1);
        alone.exit(0, true);
        due("the only parish", alone.watch(0, 47), 1);
        dueRow("the only parish", alone, 0);
    }

    private static void watchFacts() {
        HueAndCry x = land(3, 0, 1, 4, 0, 2, 4);
        x.exit(1, true);
        x.exit(2, true);
        x.guarded(0, 2);
        due("left at 0 or 1 on road 1 alone", x.watch(2, 4), 1);
        dueRow("guarded ahead", x, 2);
        due("left at 2 on road 0", x.watch(2, 6), 2);
        dueRow("at both", x, 0, 2);
        due("facts behind t don't matter", x.watch(1, 4), 2);
        dueRow("he may have left at 0", x, 1, 2);
        x.strike(0, true);
        x.seen(0, 2);
        due("seen at t", x.watch(2, 9), 1);
        dueRow("seen at t", x, 0);
        x.vain(0, 2);
        due("no journey at all", x.watch(2, 9), 0);
        dueRow("no journey at all", x);
        due("before they quarrel", x.watch(1, 4), 2);
    }

    private static void watchRows() {
        HueAndCry x = land(6, 0, 1, 1, 0, 2, 1, 0, 3, 1, 0, 4, 1, 0, 5, 1);
        x.exit(5, true);
        x.exit(3, true);
        x.exit(4, true);
        due("three", x.watch(1, 1), 3);
        dueRow("ascending", x, 3, 4, 5);
        x.exit(1, true);
        due("not enough", x.watch(1, 1), -3);
        dueRow("the row stays", x, 3, 4, 5);
        due("ahead of that one is", x.watch(0, 1), 1);
        dueRow("one", x, 0);
        HueAndCry last = land(24, 0, 21, 1, 0, 22, 1, 0, 23, 1);
        for (int p = 21; p < 24; p++) {
            last.exit(p, true);
        }
        due("the last row of all", last.watch(1, 1), 3);
        dueRow("the last row of all", last, 21, 22, 23);
        HueAndCry two = land(6, 0, 1, 1, 0, 2, 1, 1, 3, 1, 2, 4, 1);
        two.exit(3, true);
        two.exit(4, true);
        due("two", two.watch(1, 2), 2);
        dueRow("he may be at 1 or 2, or have stayed", two, 1, 2);
        due("two again", two.watch(2, 2), 2);
        dueRow("at the ends alone", two, 3, 4);
        due("two later", two.watch(3, 3), 2);
        HueAndCry first = land(5, 0, 1, 1, 1, 2, 1, 2, 3, 1, 0, 4, 1);
        first.exit(3, true);
        first.exit(4, true);
        due("the first such row", first.watch(1, 3), 2);
        dueRow("ahead of (2, 4) and (3, 4)", first, 1, 4);
    }

    private static void trait() {
        HueAndCry x = land(1);
        x.person(0, 31 << 10, 31);
        due("trait(0, 31, 0)", x.trait(0, 31, 0), true);
        due("fits", x.fits(0), 0);
        due("trait(0, 0, 30)", x.trait(0, 0, 30), true);
        due("fits", x.fits(0), 1);
        due("trait(0, 0, 31)", x.trait(0, 0, 31), true);
        due("fits", x.fits(0), 0);
        due("trait(5, 0, 0)", x.trait(5, 0, 0), true);
        due("fits", x.fits(0), 6);
        int[][] bad = {{-1, 0, 0}, {6, 0, 0}, {5, -2, 0}, {5, 32, 0}, {5, 31, -1}, {5, 31, 32}, {LOW, HIGH, 0}, {5, LOW, 0}, {5, 31, HIGH}};
        for (int[] b : bad) {
            due("trait(" + b[0] + ", " + b[1] + ", " + b[2] + ")", x.trait(b[0], b[1], b[2]), false);
        }
        due("fits still not", x.fits(0), 6);
        due("trait(5, NONE, 0)", x.trait(5, -1, 0), true);
        due("fits", x.fits(0), 0);
    }

    private static void telling() {
        HueAndCry x = land(1);
        due("nothing to blur", x.telling(3), 0);
        x.trait(1, 4, 2);
        x.trait(3, 0, 30);
        due("telling(0)", x.telling(0), 32);
        due("telling(1)", x.telling(1), 34);
        due("at most 31", x.telling(1), 35);
        for (int n : new int[] {-1, 32, LOW, HIGH}) {
            due("telling(" + n + ")", x.telling(n), -1);
        }
        due("telling(0)", x.telling(0), 35);
        x.trait(3, -1, 9);
        due("without a value it is not told", x.telling(31), 31);
        x.trait(3, 5, 0);
        due("a new blur", x.telling(0), 31);
    }

    private static void person() {
        HueAndCry x = land(2);
        int[][] bad = {{-1, 0, 0}, {2, 0, 0}, {0, -1, 0}, {0, 32768, 0}, {0, 0, -1}, {0, 0, 32768}, {LOW, 0, 0}, {0, LOW, HIGH}};
        for (int[] b : bad) {
            due("person(" + b[0] + ", " + b[1] + ", " + b[2] + ")", x.person(b[0], b[1], b[2]), -1);
        }
        int a = 1 << 10 | 2 << 5 | 3;
        int b = 4 << 10 | 5 << 5 | 6;
        due("person", x.person(1, a, b), 0);
        for (int trait = 0; trait < 6; trait++) {
            x.trait(trait, trait + 1, 0);
        }
        due("all numbers at their places", x.fits(0), 0);
        for (int i = 1; i < 30; i++) {
            due("person", x.person(0, 32767, 32767), i);
        }
        due("the 31st", x.person(0, 0, 0), -1);
        due("count", x.count(4), 30);
    }

    private static void fits() {
        HueAndCry x = land(1);
        x.person(0, 10 << 10 | 10 << 5 | 10, 10 << 10 | 10 << 5 | 10);
        due("no description", x.fits(0), 0);
        for (int trait = 5; trait >= 0; trait--) {
            x.trait(trait, 13, 2);
            due("the first that does not fit", x.fits(0), 1 + trait);
        }
        x.telling(1);
        due("3 off, blur 3", x.fits(0), 0);
        x.trait(2, 6, 3);
        due("4 off the other way", x.fits(0), 3);
        for (int person : new int[] {-1, 1, 30, LOW, HIGH}) {
            due("fits(" + person + ")", x.fits(person), -1);
        }
    }

    private static void many() {
        HueAndCry x = new HueAndCry();
        x.parish(0);
        x.parish(5);
        x.parish(0);
        x.person(0, 1 << 10, 0);
        x.person(1, 1 << 10, 0);
        x.person(2, 1 << 10, 0);
        x.person(2, 2 << 10, 0);
        due("all", x.many(-1), 4);
        x.trait(0, 1, 0);
        due("all that fit", x.many(-1), 3);
        due("county 0, two parishes", x.many(0), 2);
        due("county 5", x.many(5), 1);
        due("county 3", x.many(3), 0);
        for (int county : new int[] {-2, 6, LOW, HIGH}) {
            due("many(" + county + ")", x.many(county), -2);
        }
    }

    private static void suspects() {
        HueAndCry x = land(3, 0, 1, 4);
        x.person(0, 0, 0);
        x.person(1, 0, 0);
        x.person(1, 0, 1);
        x.person(2, 0, 0);
        due("at the start", x.suspects(0), 1);
        due("at 4", x.suspects(4), 3);
        x.trait(5, 0, 0);
        due("that fit", x.suspects(4), 2);
        x.vain(1, 4);
        due("not found there", x.suspects(4), 1);
        x.seen(1, 6);
        due("later facts don't matter", x.suspects(5), 2);
        for (int hour : new int[] {-1, 48, LOW, HIGH}) {
            due("suspects(" + hour + ")", x.suspects(hour), -1);
        }
        HueAndCry still = new HueAndCry();
        due("no start", still.suspects(0), -1);
    }

    private static void sign() {
        HueAndCry x = land(1);
        due("sign", x.sign('n' << 24 | '=' << 16 | '0' << 8 | ':'), 4);
        due("sign", x.sign('4' << 24 | '2' << 16), 8);
        x.end(6);
        due("the highest byte first", x.act(), 0);
        x.claim(0, 0);
        due("weight", x.weight(0), 42);
        for (int i = 1; i <= 25; i++) {
            due("sign", x.sign(-1), 4 * i);
        }
        due("more than 100", x.sign(0), -1);
        due("still 100", x.count(8), 100);
        x.end(97);
        due("there would be 101", x.sign(0), -1);
        x.end(96);
        due("there are 100", x.sign(0), 100);
        x.end(0);
        x.sign(0xEE << 24);
        x.end(1);
        due("a sign above 127 is no letter", x.act(), -1);
    }

    private static void end() {
        HueAndCry x = land(1);
        due("end(0) of none", x.end(0), true);
        due("end(1) of none", x.end(1), false);
        x.sign(0);
        for (int n : new int[] {-1, 5, LOW, HIGH}) {
            due("end(" + n + ")", x.end(n), false);
        }
        due("still 4", x.count(8), 4);
        due("end(4)", x.end(4), true);
        due("end(1)", x.end(1), true);
        due("count", x.count(8), 1);
        due("end(2)", x.end(2), false);
    }

    private static void act() {
        HueAndCry x = land(1);
        String[] good = {"n=0:1", "h<12:0", "c>999:999", "n=000:000", "n<1&h>2&c=3:45", "h=1&h=1:7", "c<1:12"};
        for (int i = 0; i < good.length; i++) {
            due(good[i], enact(x, good[i]), i);
            due("the tape is empty then", x.count(8), 0);
        }
        due("the tape is empty behind a fault, too", enact(x, "n=x"), -3);
        due("count(8)", x.count(8), 0);
        due("the eighth", enact(x, "n=0&n=0:1"), 7);
        due("there are 8", enact(x, "n=0:1"), -100);
        due("asked first", enact(x, "x"), -100);
        due("asked first of an empty tape", x.act(), -100);
        due("count(5)", x.count(5), 8);
    }

    private static void actPlaces() {
        HueAndCry x = land(1);
        String[] early = {"", "n", "n<", "n<1", "n<12", "n<123", "n<1&", "n<1&h", "n<1:", "n<1&h>22"};
        for (String text : early) {
            due("'" + text + "' ends too early", enact(x, text), -1 - text.length());
        }
        String[] odd = {"|x<1:2", "|N<1:2", "| n<1:2", "n|-1:2", "n|1:2", "n|n1:2", "n<|<1:2", "n<|:2", "n<|-1:2", "n<|&",
            "n<1|n", "n<1|<", "n<1| :2", "n<123|4:2", "n<1&|&", "n<1&|1", "n<1:|:", "n<1:|n", "n<1:1|&n<1:1", "n<1:123|4",
            "n<1:12| ", "n<1:1|:", "|:1", "|&n<1:1", "n<1|/", "n<1|;", "n<|/", "n<|:"};
        for (String text : odd) {
            int place = text.indexOf('|');
            due(text, enact(x, text.substring(0, place) + text.substring(place + 1)), -1 - place);
        }
        due("none of them is an act", x.count(5), 0);
    }

    private static void actLength() {
        HueAndCry x = land(1);
        String nine = "n=1&n=1&n=1&n=1&n=1&n=1&n=1&n=1&n=1";
        due("40 signs that could go on", enact(x, nine + "&n=1:"), -41);
        due("40 signs", enact(x, "n=11&n=11&" + nine.substring(0, 27) + ":22"), 0);
        due("41 signs", enact(x, "n=11&n=11&" + nine.substring(0, 27) + ":222"), -41);
        due("41 signs, the last of them wrong", enact(x, "n=11&n=11&" + nine.substring(0, 27) + ":22x"), -41);
        due("39 signs and a wrong one, and more", enact(x, nine + "&n=1x5"), -40);
        due("a fault ahead of the length", enact(x, "n=1:1&" + nine + nine), -6);
        due("100 signs", enact(x, nine + "&" + nine + "&" + nine.substring(0, 28)), -41);
        due("40 signs of ten asks", enact(x, nine + "&n=12"), -41);
        due("38 signs, ended in the weight", enact(x, nine + ":12"), 1);
        due("39 signs", enact(x, nine + ":123"), 2);
        due("40 signs, the last too much", enact(x, nine + ":1234"), -40);
    }

    private static void repeal() {
        HueAndCry x = land(1);
        due("none", x.repeal(), 0);
        enact(x, "n=0:5");
        enact(x, "n=0&h=9:6");
        x.claim(0, 0);
        due("weight", x.weight(0), 5);
        due("repeal", x.repeal(), 2);
        due("count", x.count(5), 0);
        due("weight", x.weight(0), 0);
        due("claims stay", x.count(6), 1);
        due("anew", enact(x, "h=0:8"), 0);
        due("weight", x.weight(0), 8);
    }

    private static void claim() {
        HueAndCry x = land(2);
        int[][] bad = {{-1, 0}, {2, 0}, {0, -1}, {0, 48}, {LOW, 0}, {0, HIGH}};
        for (int[] b : bad) {
            due("claim(" + b[0] + ", " + b[1] + ")", x.claim(b[0], b[1]), -1);
        }
        for (int i = 0; i < 12; i++) {
            due("claim", x.claim(i % 2, i == 0 ? 47 : 0), i);
        }
        due("the 13th", x.claim(0, 0), -1);
        due("count", x.count(6), 12);
    }

    private static void weight() {
        HueAndCry x = new HueAndCry();
        for (int county = 0; county < 6; county++) {
            x.parish(county);
        }
        x.claim(0, 47);
        x.claim(3, 10);
        x.claim(5, 10);
        due("no act", x.weight(1), 0);
        enact(x, "n>0&h=10&c<4:11");
        enact(x, "c=5:0");
        enact(x, "n<3&h>9:22");
        due("the third", x.weight(0), 22);
        due("the first that holds", x.weight(1), 11);
        due("a weight of 0", x.weight(2), 0);
        x.repeal();
        enact(x, "h<47:1");
        enact(x, "h>47:2");
        enact(x, "n=000:3");
        due("neither less nor more", x.weight(0), 3);
        due("less", x.weight(1), 1);
        for (int claim : new int[] {-1, 3, 12, LOW, HIGH}) {
            due("weight(" + claim + ")", x.weight(claim), -1);
        }
    }

    private static void reward() {
        HueAndCry x = land(1);
        due("no claims", x.reward(5), 0);
        dueRow("no claims", x);
        for (int i = 0; i < 4; i++) {
            x.claim(0, i);
        }
        due("no acts", x.reward(5), 0);
        dueRow("no acts", x, 0, 0, 0, 0);
        enact(x, "n=0:1");
        enact(x, "n=3:0");
        enact(x, "n>0:3");
        due("parted", x.reward(100), 100);
        dueRow("what is left has the first of the greatest", x, 14, 44, 42, 0);
        due("reward(1)", x.reward(1), 1);
        dueRow("reward(1)", x, 0, 1, 0, 0);
        due("reward(7)", x.reward(7), 7);
        dueRow("reward(7)", x, 1, 3, 3, 0);
        for (int sum : new int[] {0, -1, 1000001, LOW, HIGH}) {
            due("reward(" + sum + ")", x.reward(sum), -1);
        }
        dueRow("the row stays", x, 1, 3, 3, 0);
        x.repeal();
        enact(x, "n<3:999");
        enact(x, "n=3:998");
        due("reward(1000000)", x.reward(1000000), 1000000);
        dueRow("reward(1000000)", x, 250064, 250062, 250062, 249812);
    }

    private static void waive() {
        HueAndCry x = land(1);
        due("none", x.waive(), 0);
        enact(x, "h=0:4");
        x.claim(0, 0);
        x.claim(0, 1);
        x.reward(9);
        due("waive", x.waive(), 2);
        due("count", x.count(6), 0);
        due("weight", x.weight(0), -1);
        due("acts stay", x.count(5), 1);
        dueRow("the row stays", x, 9, 0);
        due("anew", x.claim(0, 1), 0);
        due("weight", x.weight(0), 0);
    }

    private static void row() {
        HueAndCry x = land(3, 0, 1, 1, 1, 2, 1);
        for (int i : new int[] {0, -1, LOW, HIGH}) {
            due("row(" + i + ") of none", number(x, i), Long.MIN_VALUE);
        }
        x.trail(2, 2);
        dueRow("told by trail", x, 0, 1, 2);
        due("row(-1)", number(x, -1), Long.MIN_VALUE);
        x.exit(2, true);
        x.watch(0, 47);
        dueRow("told by watch", x, 0);
        x.claim(0, 0);
        x.claim(0, 0);
        x.reward(3);
        dueRow("told by reward", x, 0, 0);
        x.may(0, 0);
        x.parish(0);
        dueRow("other calls leave it", x, 0, 0);
    }

    /** With all limits reached no call may run over an edge. */
    private static void allFull() {
        HueAndCry x = new HueAndCry();
        for (int i = 0; i < 24; i++) {
            x.parish(5);
            x.exit(i, i > 20);
        }
        for (int i = 0; i < 40; i++) {
            x.road(i % 23, i % 23 + 1, 1 + i % 12);
            x.guarded(i, i);
        }
        for (int i = 0; i < 30; i++) {
            x.person(i % 24, i, i);
        }
        for (int i = 0; i < 12; i++) {
            x.claim(23, 47);
        }
        for (int i = 0; i < 8; i++) {
            enact(x, "n<99&n<99&n<99&n<99&n<99&n<99&n<99:" + i);
        }
        x.begin(0);
        int[] want = {24, 40, 40, 40, 30, 8, 12, 0, 0, 0};
        for (int what = 0; what < want.length; what++) {
            due("count(" + what + ")", x.count(what), want[what]);
        }
        due("far", x.far(0, 23), 129);
        due("many", x.many(5), 30);
        due("reward, by the first act", x.reward(1000000), 0);
        due("row", number(x, 11), 0);
        due("no quarrel", x.quarrel(), -1);
        due("too far", x.first(12), -1);
        due("by the slower road, the faster is guarded", x.first(9), 38);
        due("trail", x.trail(9, 47), 10);
        due("watch", x.watch(0, 47), 0);
        x.strike(0, true);
        due("suspects at the start", x.suspects(0), 2);
        due("was", x.was(0, 47), 1);
        HueAndCry full = land(2);
        for (int i = 0; i < 40; i++) {
            full.road(0, 1, 12);
        }
        full.seen(1, 5);
        full.seen(1, 6);
        due("a quarrel with all roads, and no one fact to mend it", full.quarrel(), 0);
        full.strike(1, true);
        due("one fact", full.quarrel(), 1);
    }
}
