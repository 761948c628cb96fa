import java.util.ArrayList;
import java.util.List;

/**
 * What a refused call leaves as it was: all. Of two objects that were made alike one gets the refused
 * call; then both must tell the same of all that they hold.
 */
public final class RefusalTest extends Bounds {
    private interface Call {
        long on(HueAndCry x);
    }

    public static void main(String[] args) {
        runAll(RefusalTest.class, 2, 34);
    }

    private static long bit(boolean is) {
        return is ? 1 : 0;
    }

    /** Some of everything. */
    private static HueAndCry some() {
        HueAndCry x = new HueAndCry();
        for (int county : new int[] {0, 1, 1, 5, 3}) {
            x.parish(county);
        }
        int[][] roads = {{0, 1, 2}, {1, 2, 3}, {2, 3, 1}, {0, 3, 7}, {3, 4, 1}, {0, 2, 4}};
        for (int[] r : roads) {
            x.road(r[0], r[1], r[2]);
        }
        x.shut(5, true);
        x.exit(4, true);
        x.begin(0);
        x.vain(1, 2);
        x.guarded(0, 3);
        x.seen(2, 9);
        x.vain(3, 8);
        x.strike(3, true);
        x.trait(1, 10, 2);
        x.trait(4, 20, 5);
        x.person(0, five(1, 9, 3), five(0, 18, 7));
        x.person(1, five(1, 13, 3), five(0, 18, 7));
        x.person(4, five(1, 10, 3), five(0, 26, 7));
        enact(x, "n=0:7");
        enact(x, "h<9&c=5:3");
        x.claim(0, 40);
        x.claim(3, 8);
        x.claim(4, 1);
        x.reward(99);
        put(x, "c=3:21");
        return x;
    }

    /** As much of everything as there may be. */
    private static HueAndCry full() {
        HueAndCry x = new HueAndCry();
        for (int i = 0; i < 24; i++) {
            x.parish(i % 6);
        }
        for (int i = 0; i < 40; i++) {
            x.road(i % 23, i % 23 + 1, 1 + i % 3);
        }
        x.exit(20, true);
        x.begin(3);
        for (int i = 0; i < 40; i++) {
            x.vain(23 - i % 24, i);
        }
        for (int i = 0; i < 30; i++) {
            x.person(i % 24, 1000 * i, 900 * i);
        }
        for (int i = 0; i < 8; i++) {
            enact(x, "n=" + i + ":" + (9 - i));
        }
        for (int i = 0; i < 12; i++) {
            x.claim(i, i);
        }
        x.reward(99);
        for (int i = 0; i < 25; i++) {
            x.sign(0x31323334);
        }
        return x;
    }

    /** All that an object tells. It is used up by that: the last calls change it. */
    private static String told(HueAndCry x) {
        StringBuilder s = new StringBuilder();
        for (int what = 0; what <= 9; what++) {
            s.append(x.count(what)).append(' ');
        }
        int numbers = x.count(7);
        for (int i = 0; i < numbers; i++) {
            s.append(number(x, i)).append(' ');
        }
        s.append("quarrel ").append(x.quarrel()).append(" far");
        int parishes = x.count(0);
        for (int i = 0; i < parishes; i++) {
            s.append(' ').append(x.far(0, i));
        }
        s.append(" places");
        for (int hour = 0; hour < 48; hour += 3) {
            s.append(' ').append(x.places(hour, 0)).append(' ').append(x.places(hour, 1));
        }
        s.append(" fits");
        int persons = x.count(4);
        for (int i = 0; i < persons; i++) {
            s.append(' ').append(x.fits(i));
        }
        s.append(" weights");
        int claims = x.count(6);
        for (int i = 0; i < claims; i++) {
            s.append(' ').append(x.weight(i));
        }
        s.append(" many");
        for (int county = -1; county < 6; county++) {
            s.append(' ').append(x.many(county));
        }
        s.append(" telling ").append(x.telling(0)).append(" watch ").append(x.watch(1, 20)).append(' ').append(number(x, 0));
        s.append(" reward ").append(x.reward(1000)).append(' ').append(number(x, 0)).append(' ').append(number(x, 1));
        s.append(" act ").append(x.act()).append(' ').append(x.weight(2)).append(" next");
        s.append(' ').append(x.seen(0, 0)).append(' ').append(x.person(0, 0, 0)).append(' ').append(x.claim(0, 0));
        s.append(' ').append(x.parish(0)).append(' ').append(x.road(0, 1, 1)).append(' ').append(x.repeal());
        return s.toString();
    }

    private static void refused(String what, Call call, long want) {
        HueAndCry x = some();
        due(what, call.on(x), want);
        due("all behind " + what, told(x), told(some()));
    }

    private static void refusedFull(String what, Call call, long want) {
        HueAndCry x = full();
        due(what + ", all full", call.on(x), want);
        due("all behind " + what + ", all full", told(x), told(full()));
    }

    /** All ints that are not low .. high, as far as they are worth a try. */
    private static List<Integer> beside(int low, int high) {
        List<Integer> odd = new ArrayList<>();
        for (int i : new int[] {LOW, -2, -1, high + 1, high + 2, 64, HIGH}) {
            if (i < low || i > high) {
                odd.add(i);
            }
        }
        return odd;
    }

    static void p02_parish() {
        for (int i : beside(0, 5)) {
            refused("parish(" + i + ")", x -> x.parish(i), NONE);
        }
        refusedFull("parish(0)", x -> x.parish(0), NONE);
    }

    static void p03_road() {
        for (int i : beside(0, 4)) {
            refused("road(" + i + ", 1, 1)", x -> x.road(i, 1, 1), NONE);
            refused("road(1, " + i + ", 1)", x -> x.road(1, i, 1), NONE);
        }
        for (int i : beside(1, 12)) {
            refused("road(0, 1, " + i + ")", x -> x.road(0, 1, i), NONE);
        }
        refused("road(0, 1, 0)", x -> x.road(0, 1, 0), NONE);
        refused("road(2, 2, 1)", x -> x.road(2, 2, 1), NONE);
        refusedFull("road(0, 1, 1)", x -> x.road(0, 1, 1), NONE);
    }

    static void p04_shut() {
        for (int i : beside(0, 5)) {
            refused("shut(" + i + ", true)", x -> bit(x.shut(i, true)), 0);
            refused("shut(" + i + ", false)", x -> bit(x.shut(i, false)), 0);
        }
        refusedFull("shut(40, true)", x -> bit(x.shut(40, true)), 0);
    }

    static void p05_exit() {
        for (int i : beside(0, 4)) {
            refused("exit(" + i + ", true)", x -> bit(x.exit(i, true)), 0);
            refused("exit(" + i + ", false)", x -> bit(x.exit(i, false)), 0);
        }
        // A bit shifted by 32 and a parish's number would be that parish's.
        refused("exit(36, false)", x -> bit(x.exit(36, false)), 0);
        refusedFull("exit(24, true)", x -> bit(x.exit(24, true)), 0);
        refusedFull("exit(52, false)", x -> bit(x.exit(52, false)), 0);
    }

    static void p06_begin() {
        for (int i : beside(0, 4)) {
            refused("begin(" + i + ")", x -> bit(x.begin(i)), 0);
        }
        refusedFull("begin(24)", x -> bit(x.begin(24)), 0);
    }

    static void p07_count() {
        for (int i : beside(0, 9)) {
            refused("count(" + i + ")", x -> x.count(i), NONE);
        }
    }

    static void p08_far() {
        for (int i : beside(0, 4)) {
            refused("far(" + i + ", 0)", x -> x.far(i, 0), NONE);
            refused("far(0, " + i + ")", x -> x.far(0, i), NONE);
        }
    }

    static void p09_seen() {
        for (int i : beside(0, 4)) {
            refused("seen(" + i + ", 0)", x -> x.seen(i, 0), NONE);
        }
        for (int i : beside(0, 47)) {
            refused("seen(1, " + i + ")", x -> x.seen(1, i), NONE);
        }
        refusedFull("seen(0, 0)", x -> x.seen(0, 0), NONE);
    }

    static void p10_vain() {
        for (int i : beside(0, 4)) {
            refused("vain(" + i + ", 0)", x -> x.vain(i, 0), NONE);
        }
        for (int i : beside(0, 47)) {
            refused("vain(0, " + i + ")", x -> x.vain(0, i), NONE);
        }
        refusedFull("vain(3, 0)", x -> x.vain(3, 0), NONE);
    }

    static void p11_guarded() {
        for (int i : beside(0, 5)) {
            refused("guarded(" + i + ", 4)", x -> x.guarded(i, 4), NONE);
        }
        for (int i : beside(0, 47)) {
            refused("guarded(1, " + i + ")", x -> x.guarded(1, i), NONE);
        }
        refusedFull("guarded(2, 4)", x -> x.guarded(2, 4), NONE);
    }

    static void p12_strike() {
        for (int i : beside(0, 3)) {
            refused("strike(" + i + ", true)", x -> bit(x.strike(i, true)), 0);
            refused("strike(" + i + ", false)", x -> bit(x.strike(i, false)), 0);
        }
        refusedFull("strike(40, true)", x -> bit(x.strike(40, true)), 0);
    }

    static void p13_may() {
        for (int i : beside(0, 4)) {
            refused("may(" + i + ", 0)", x -> x.may(i, 0), NONE);
        }
        for (int i : beside(0, 47)) {
            refused("may(0, " + i + ")", x -> x.may(0, i), NONE);
        }
    }

    static void p14_was() {
        for (int i : beside(0, 4)) {
            refused("was(" + i + ", 0)", x -> x.was(i, 0), NONE);
        }
        for (int i : beside(0, 47)) {
            refused("was(0, " + i + ")", x -> x.was(0, i), NONE);
        }
    }

    static void p15_places() {
        for (int i : beside(0, 47)) {
            refused("places(" + i + ", 0)", x -> x.places(i, 0), NONE);
            refused("places(" + i + ", 1)", x -> x.places(i, 1), NONE);
        }
        for (int i : beside(0, 1)) {
            refused("places(0, " + i + ")", x -> x.places(0, i), NONE);
        }
    }

    static void p16_first() {
        for (int i : beside(0, 4)) {
            refused("first(" + i + ")", x -> x.first(i), NONE);
        }
    }

    static void p17_trail() {
        for (int i : beside(0, 4)) {
            refused("trail(" + i + ", 0)", x -> x.trail(i, 0), NONE);
        }
        for (int i : beside(0, 47)) {
            refused("trail(0, " + i + ")", x -> x.trail(0, i), NONE);
        }
        refused("trail(1, 1)", x -> x.trail(1, 1), 0);
    }

    static void p18_quarrel() {
        refused("quarrel()", x -> x.quarrel(), NONE);
        refusedFull("quarrel()", x -> x.quarrel(), NONE);
    }

    static void p19_watch() {
        for (int i : beside(0, 47)) {
            refused("watch(" + i + ", 47)", x -> x.watch(i, 47), NONE);
            refused("watch(0, " + i + ")", x -> x.watch(0, i), NONE);
        }
        refused("watch(9, 8)", x -> x.watch(9, 8), NONE);
    }

    static void p20_trait() {
        for (int i : beside(0, 5)) {
            refused("trait(" + i + ", 0, 0)", x -> bit(x.trait(i, 0, 0)), 0);
        }
        for (int i : beside(-1, 31)) {
            refused("trait(1, " + i + ", 0)", x -> bit(x.trait(1, i, 0)), 0);
        }
        for (int i : beside(0, 31)) {
            refused("trait(1, 0, " + i + ")", x -> bit(x.trait(1, 0, i)), 0);
        }
    }

    static void p21_telling() {
        for (int i : beside(0, 31)) {
            refused("telling(" + i + ")", x -> x.telling(i), NONE);
        }
    }

    static void p22_person() {
        for (int i : beside(0, 4)) {
            refused("person(" + i + ", 0, 0)", x -> x.person(i, 0, 0), NONE);
        }
        for (int i : beside(0, 32767)) {
            refused("person(0, " + i + ", 0)", x -> x.person(0, i, 0), NONE);
            refused("person(0, 0, " + i + ")", x -> x.person(0, 0, i), NONE);
        }
        refusedFull("person(0, 0, 0)", x -> x.person(0, 0, 0), NONE);
    }

    static void p23_fits() {
        for (int i : beside(0, 2)) {
            refused("fits(" + i + ")", x -> x.fits(i), NONE);
        }
        refusedFull("fits(30)", x -> x.fits(30), NONE);
    }

    static void p24_many() {
        for (int i : beside(-1, 5)) {
            refused("many(" + i + ")", x -> x.many(i), -2);
        }
    }

    static void p25_suspects() {
        for (int i : beside(0, 47)) {
            refused("suspects(" + i + ")", x -> x.suspects(i), NONE);
        }
    }

    static void p26_sign() {
        refusedFull("sign(0)", x -> x.sign(0), NONE);
        HueAndCry x = full();
        HueAndCry y = full();
        x.end(97);
        y.end(97);
        due("sign(0) behind 97", x.sign(0), NONE);
        due("all behind sign(0) behind 97", told(x), told(y));
    }

    static void p27_end() {
        for (int i : beside(0, 6)) {
            refused("end(" + i + ")", x -> bit(x.end(i)), 0);
        }
        refused("end(6), all that it has", x -> bit(x.end(6)), 1);
        refusedFull("end(101)", x -> bit(x.end(101)), 0);
        refusedFull("end(-1)", x -> bit(x.end(-1)), 0);
    }

    static void p28_act() {
        // The tape is empty behind an act that is none; all else is as it was.
        HueAndCry x = some();
        x.end(5);
        x.sign(0x78787878);
        due("act()", x.act(), -6);
        put(x, "c=3:21");
        due("all behind act()", told(x), told(some()));
    }

    static void p29_repeal() {
        HueAndCry x = some();
        x.repeal();
        due("repeal() of none", x.repeal(), 0);
        HueAndCry y = some();
        y.repeal();
        due("all behind repeal()", told(x), told(y));
    }

    static void p30_claim() {
        for (int i : beside(0, 4)) {
            refused("claim(" + i + ", 0)", x -> x.claim(i, 0), NONE);
        }
        for (int i : beside(0, 47)) {
            refused("claim(0, " + i + ")", x -> x.claim(0, i), NONE);
        }
        refusedFull("claim(0, 0)", x -> x.claim(0, 0), NONE);
    }

    static void p31_weight() {
        for (int i : beside(0, 2)) {
            refused("weight(" + i + ")", x -> x.weight(i), NONE);
        }
        refusedFull("weight(12)", x -> x.weight(12), NONE);
    }

    static void p32_reward() {
        for (int i : beside(1, 1000000)) {
            refused("reward(" + i + ")", x -> x.reward(i), NONE);
        }
        refused("reward(0)", x -> x.reward(0), NONE);
    }

    static void p33_waive() {
        HueAndCry x = some();
        x.waive();
        due("waive() of none", x.waive(), 0);
        HueAndCry y = some();
        y.waive();
        due("all behind waive()", told(x), told(y));
    }

    static void p34_row() {
        for (int i : beside(0, 2)) {
            refused("row(" + i + ")", x -> number(x, i), THROWN);
        }
        refusedFull("row(12)", x -> number(x, 12), THROWN);
    }
}
