/** Boundary cases of promises 1 to 8: a new object, the land. */
public final class LandBoundsTest extends Bounds {
    public static void main(String[] args) {
        runAll(LandBoundsTest.class, 1, 8);
    }

    // ---- promise 1: a new object

    static void p01_noParishes() {
        HueAndCry x = new HueAndCry();
        due("count(0)", x.count(0), 0);
        due("exit(0)", x.exit(0, true), false);
        due("begin(0)", x.begin(0), false);
        due("far(0, 0)", x.far(0, 0), NONE);
        due("seen(0, 0)", x.seen(0, 0), NONE);
        due("vain(0, 0)", x.vain(0, 0), NONE);
        due("person(0, 0, 0)", x.person(0, 0, 0), NONE);
        due("claim(0, 0)", x.claim(0, 0), NONE);
        due("the first parish is 0", x.parish(0), 0);
    }

    static void p01_noRoads() {
        HueAndCry x = new HueAndCry();
        due("count(1)", x.count(1), 0);
        due("shut(0)", x.shut(0, true), false);
        due("guarded(0, 0)", x.guarded(0, 0), NONE);
        x.parish(0);
        x.parish(0);
        due("no way yet", x.far(0, 1), NONE);
        due("the first road is 0", x.road(0, 1, 1), 0);
    }

    static void p01_noFacts() {
        HueAndCry x = new HueAndCry();
        due("count(2)", x.count(2), 0);
        due("count(3)", x.count(3), 0);
        due("strike(0)", x.strike(0, true), false);
        x.parish(0);
        due("the first fact is 0", x.seen(0, 0), 0);
        due("it is not struck", x.count(3), 1);
    }

    static void p01_noPersons() {
        HueAndCry x = new HueAndCry();
        due("count(4)", x.count(4), 0);
        due("fits(0)", x.fits(0), NONE);
        due("many(NONE)", x.many(NONE), 0);
        due("many(0)", x.many(0), 0);
        x.parish(0);
        due("the first person is 0", x.person(0, 0, 0), 0);
    }

    static void p01_noActs() {
        HueAndCry x = new HueAndCry();
        due("count(5)", x.count(5), 0);
        due("repeal()", x.repeal(), 0);
        x.parish(0);
        x.claim(0, 0);
        due("no act holds", x.weight(0), 0);
        due("the first act is 0", enact(x, "n=0:1"), 0);
    }

    static void p01_noClaims() {
        HueAndCry x = new HueAndCry();
        due("count(6)", x.count(6), 0);
        due("weight(0)", x.weight(0), NONE);
        due("waive()", x.waive(), 0);
        due("reward(1)", x.reward(1), 0);
        x.parish(0);
        due("the first claim is 0", x.claim(0, 0), 0);
    }

    static void p01_noStart() {
        HueAndCry x = new HueAndCry();
        due("count(9)", x.count(9), NONE);
        x.parish(0);
        due("a parish is not the start by itself", x.count(9), NONE);
        due("may(0, 0)", x.may(0, 0), NONE);
        due("was(0, 0)", x.was(0, 0), NONE);
        due("places(0, 0)", x.places(0, 0), NONE);
        due("first(0)", x.first(0), NONE);
        due("trail(0, 0)", x.trail(0, 0), NONE);
        due("quarrel()", x.quarrel(), 0);
        due("watch(0, 0)", x.watch(0, 0), NONE);
        due("suspects(0)", x.suspects(0), NONE);
    }

    static void p01_noTraitHasAValue() {
        HueAndCry x = new HueAndCry();
        due("telling(31)", x.telling(31), 0);
        x.parish(0);
        x.person(0, 0, 32767);
        due("so each fits", x.fits(0), 0);
    }

    static void p01_rowAndTapeAreEmpty() {
        HueAndCry x = new HueAndCry();
        due("count(7)", x.count(7), 0);
        due("row(0)", number(x, 0), THROWN);
        due("count(8)", x.count(8), 0);
        due("end(1)", x.end(1), false);
        due("act()", x.act(), -1);
    }

    static void p01_objectsAreApart() {
        HueAndCry x = land(2, 0, 1, 1);
        HueAndCry y = new HueAndCry();
        x.seen(0, 0);
        x.person(0, 0, 0);
        x.trait(0, 3, 3);
        enact(x, "n=0:1");
        x.claim(0, 0);
        x.reward(7);
        x.sign(0);
        for (int what = 0; what <= 8; what++) {
            due("count(" + what + ") of the other", y.count(what), 0);
        }
        due("count(9) of the other", y.count(9), NONE);
        due("telling of the other", y.telling(1), 0);
        HueAndCry z = new HueAndCry();
        due("parishes of a later one", z.count(0), 0);
        due("row of the first", number(x, 0), 7);
    }

    static void p01_all512Calls() {
        HueAndCry x = line(24);
        int made = 24 + 1 + 23;
        x.exit(23, true);
        x.exit(0, true);
        made += 2;
        for (int i = made + 1; i <= 510; i++) {
            due("call " + i, x.watch(1, 47), 2);
        }
        due("call 511", number(x, 1), 1);
        due("call 512", x.trail(23, 23), 24);
    }

    // ---- promise 2: parish

    static void p02_lowestCounty() {
        HueAndCry x = new HueAndCry();
        due("parish(-1)", x.parish(-1), NONE);
        due("none was kept", x.count(0), 0);
        due("parish(0)", x.parish(0), 0);
        x.person(0, 0, 0);
        due("it is of county 0", x.many(0), 1);
    }

    static void p02_highestCounty() {
        HueAndCry x = new HueAndCry();
        due("parish(6)", x.parish(6), NONE);
        due("none was kept", x.count(0), 0);
        due("parish(5)", x.parish(5), 0);
        x.person(0, 0, 0);
        due("it is of county 5", x.many(5), 1);
    }

    static void p02_countiesFarOff() {
        HueAndCry x = new HueAndCry();
        for (int county : FAR_OFF) {
            due("parish(" + county + ")", x.parish(county), NONE);
        }
        due("none was kept", x.count(0), 0);
        due("the next has no gap ahead", x.parish(3), 0);
    }

    static void p02_all24() {
        HueAndCry x = new HueAndCry();
        for (int i = 0; i < 24; i++) {
            due("parish " + i, x.parish(i % 6), i);
        }
        due("count", x.count(0), 24);
        due("the 24th is one", x.begin(23), true);
    }

    static void p02_the25th() {
        HueAndCry x = parishes(24);
        due("the 25th", x.parish(0), NONE);
        due("the 25th of another county", x.parish(5), NONE);
        due("the 25th of no county", x.parish(6), NONE);
        due("count", x.count(0), 24);
        due("there is no parish 24", x.begin(24), false);
    }

    static void p02_noExit() {
        HueAndCry x = land(1);
        due("the start is no exit", x.watch(0, 47), 0);
        x.exit(0, true);
        x.parish(0);
        x.begin(1);
        due("nor is one behind an exit", x.watch(0, 47), 0);
    }

    // ---- promise 3: road

    static void p03_firstEnd() {
        HueAndCry x = parishes(3);
        due("road(-1, 1, 1)", x.road(-1, 1, 1), NONE);
        due("road(3, 1, 1)", x.road(3, 1, 1), NONE);
        due("none was kept", x.count(1), 0);
        due("road(0, 1, 1)", x.road(0, 1, 1), 0);
        due("road(2, 1, 1)", x.road(2, 1, 1), 1);
    }

    static void p03_secondEnd() {
        HueAndCry x = parishes(3);
        due("road(1, -1, 1)", x.road(1, -1, 1), NONE);
        due("road(1, 3, 1)", x.road(1, 3, 1), NONE);
        due("none was kept", x.count(1), 0);
        due("road(1, 0, 1)", x.road(1, 0, 1), 0);
        due("road(1, 2, 1)", x.road(1, 2, 1), 1);
    }

    static void p03_lastParishOfAll() {
        HueAndCry x = parishes(24);
        due("road(22, 24, 1)", x.road(22, 24, 1), NONE);
        due("road(24, 22, 1)", x.road(24, 22, 1), NONE);
        due("road(22, 23, 1)", x.road(22, 23, 1), 0);
        due("road(23, 22, 1)", x.road(23, 22, 1), 1);
        due("far", x.far(22, 23), 1);
    }

    static void p03_twoParishesAreWanted() {
        HueAndCry x = parishes(2);
        due("road(0, 0, 1)", x.road(0, 0, 1), NONE);
        due("road(1, 1, 12)", x.road(1, 1, 12), NONE);
        due("none was kept", x.count(1), 0);
    }

    static void p03_fewestHours() {
        HueAndCry x = parishes(2);
        due("road(0, 1, 0)", x.road(0, 1, 0), NONE);
        due("road(0, 1, -1)", x.road(0, 1, -1), NONE);
        due("none was kept", x.count(1), 0);
        due("road(0, 1, 1)", x.road(0, 1, 1), 0);
        due("far", x.far(0, 1), 1);
    }

    static void p03_mostHours() {
        HueAndCry x = parishes(2);
        due("road(0, 1, 13)", x.road(0, 1, 13), NONE);
        due("none was kept", x.count(1), 0);
        due("road(0, 1, 12)", x.road(0, 1, 12), 0);
        due("far", x.far(0, 1), 12);
    }

    static void p03_farOff() {
        HueAndCry x = parishes(2);
        for (int odd : FAR_OFF) {
            due("road(" + odd + ", 1, 1)", x.road(odd, 1, 1), NONE);
            due("road(0, " + odd + ", 1)", x.road(0, odd, 1), NONE);
            due("road(0, 1, " + odd + ")", x.road(0, 1, odd), NONE);
        }
        due("none was kept", x.count(1), 0);
        due("the next has no gap ahead", x.road(0, 1, 1), 0);
    }

    static void p03_all40() {
        HueAndCry x = parishes(2);
        for (int i = 0; i < 40; i++) {
            due("road " + i, x.road(i % 2, 1 - i % 2, 1 + i % 12), i);
        }
        due("count", x.count(1), 40);
        due("the 40th is one", x.shut(39, true), true);
    }

    static void p03_the41st() {
        HueAndCry x = parishes(3);
        for (int i = 0; i < 40; i++) {
            x.road(0, 1, 12);
        }
        due("the 41st", x.road(1, 2, 1), NONE);
        due("a shorter one", x.road(0, 1, 1), NONE);
        due("count", x.count(1), 40);
        due("there is no road 40", x.shut(40, true), false);
        due("no way to 2", x.far(1, 2), NONE);
        due("no shorter way", x.far(0, 1), 12);
    }

    static void p03_shutRoadsCountToo() {
        HueAndCry x = parishes(2);
        for (int i = 0; i < 40; i++) {
            x.road(0, 1, 1);
            x.shut(i, true);
        }
        due("the 41st", x.road(0, 1, 1), NONE);
    }

    static void p03_severalBetweenTheSameTwo() {
        HueAndCry x = parishes(2);
        due("one", x.road(0, 1, 5), 0);
        due("another", x.road(0, 1, 5), 1);
        due("the other way round", x.road(1, 0, 3), 2);
        due("count", x.count(1), 3);
        due("far", x.far(0, 1), 3);
    }

    static void p03_open() {
        HueAndCry x = land(2, 0, 1, 1);
        due("a new road is open", x.may(1, 1), 1);
        x.shut(0, true);
        x.road(0, 1, 2);
        due("one behind a shut one, too", x.may(1, 2), 1);
        due("and the shut one stays so", x.may(1, 1), 0);
    }

    // ---- promise 4: shut

    static void p04_firstRoad() {
        HueAndCry x = land(3, 0, 1, 1, 0, 2, 1);
        due("shut(-1)", x.shut(-1, true), false);
        due("far to 1", x.far(0, 1), 1);
        due("far to 2", x.far(0, 2), 1);
        due("shut(0)", x.shut(0, true), true);
        due("far to 1", x.far(0, 1), NONE);
        due("far to 2", x.far(0, 2), 1);
    }

    static void p04_lastRoad() {
        HueAndCry x = land(3, 0, 1, 1, 0, 2, 1);
        due("shut(2)", x.shut(2, true), false);
        due("far to 1", x.far(0, 1), 1);
        due("far to 2", x.far(0, 2), 1);
        due("shut(1)", x.shut(1, true), true);
        due("far to 1", x.far(0, 1), 1);
        due("far to 2", x.far(0, 2), NONE);
    }

    static void p04_openAnew() {
        HueAndCry x = land(2, 0, 1, 1);
        x.shut(0, true);
        due("shut(-1, false)", x.shut(-1, false), false);
        due("shut(1, false)", x.shut(1, false), false);
        due("still shut", x.far(0, 1), NONE);
        due("shut(0, false)", x.shut(0, false), true);
        due("open", x.far(0, 1), 1);
    }

    static void p04_asItIsAlready() {
        HueAndCry x = land(2, 0, 1, 1);
        due("an open one is open", x.shut(0, false), true);
        due("open", x.far(0, 1), 1);
        x.shut(0, true);
        due("a shut one is shut", x.shut(0, true), true);
        due("shut", x.far(0, 1), NONE);
        due("once is enough to open it", x.shut(0, false), true);
        due("open", x.far(0, 1), 1);
    }

    static void p04_aRoadNotYetMade() {
        HueAndCry x = land(2);
        due("shut(0)", x.shut(0, true), false);
        x.road(0, 1, 1);
        due("it is open when it is made", x.far(0, 1), 1);
    }

    static void p04_farOff() {
        HueAndCry x = land(2, 0, 1, 1);
        for (int odd : FAR_OFF) {
            due("shut(" + odd + ")", x.shut(odd, true), false);
        }
        due("still open", x.far(0, 1), 1);
    }

    // ---- promise 5: exit

    static void p05_firstParish() {
        HueAndCry x = land(2);
        due("exit(-1)", x.exit(-1, true), false);
        due("no exit", x.watch(0, 0), 0);
        due("exit(0)", x.exit(0, true), true);
        due("an exit", x.watch(0, 0), 1);
    }

    static void p05_lastParish() {
        HueAndCry x = land(2);
        x.begin(1);
        due("exit(2)", x.exit(2, true), false);
        due("no exit", x.watch(0, 0), 0);
        due("exit(1)", x.exit(1, true), true);
        due("an exit", x.watch(0, 0), 1);
    }

    static void p05_lastParishOfAll() {
        HueAndCry x = parishes(24);
        x.begin(23);
        due("exit(24)", x.exit(24, true), false);
        due("no exit", x.watch(0, 0), 0);
        due("exit(23)", x.exit(23, true), true);
        due("an exit", x.watch(0, 0), 1);
    }

    static void p05_noExitAnew() {
        HueAndCry x = land(2);
        x.exit(0, true);
        due("exit(-1, false)", x.exit(-1, false), false);
        due("exit(2, false)", x.exit(2, false), false);
        due("exit(1, false), another's", x.exit(1, false), true);
        due("still an exit", x.watch(0, 0), 1);
        due("exit(0, false)", x.exit(0, false), true);
        due("no exit", x.watch(0, 0), 0);
    }

    static void p05_asItIsAlready() {
        HueAndCry x = land(1);
        due("no exit is none", x.exit(0, false), true);
        due("no exit", x.watch(0, 0), 0);
        x.exit(0, true);
        due("an exit is one", x.exit(0, true), true);
        due("an exit", x.watch(0, 0), 1);
        due("once is enough to end it", x.exit(0, false), true);
        due("no exit", x.watch(0, 0), 0);
    }

    static void p05_aParishNotYetMade() {
        HueAndCry x = land(1);
        due("exit(1)", x.exit(1, true), false);
        x.parish(0);
        x.begin(1);
        due("it is no exit when it is made", x.watch(0, 0), 0);
    }

    static void p05_farOff() {
        HueAndCry x = land(1);
        for (int odd : FAR_OFF) {
            due("exit(" + odd + ")", x.exit(odd, true), false);
        }
        due("no exit", x.watch(0, 0), 0);
    }

    // ---- promise 6: begin

    static void p06_firstParish() {
        HueAndCry x = parishes(2);
        due("begin(-1)", x.begin(-1), false);
        due("no start", x.count(9), NONE);
        due("begin(0)", x.begin(0), true);
        due("the start", x.count(9), 0);
    }

    static void p06_lastParish() {
        HueAndCry x = parishes(2);
        due("begin(2)", x.begin(2), false);
        due("no start", x.count(9), NONE);
        due("begin(1)", x.begin(1), true);
        due("the start", x.count(9), 1);
    }

    static void p06_lastParishOfAll() {
        HueAndCry x = parishes(24);
        due("begin(24)", x.begin(24), false);
        due("begin(23)", x.begin(23), true);
        due("the start", x.count(9), 23);
        due("he is there", x.places(0, 0), 1 << 23);
    }

    static void p06_refusedTheStartStays() {
        HueAndCry x = parishes(2);
        x.begin(1);
        due("begin(-1)", x.begin(-1), false);
        due("begin(2)", x.begin(2), false);
        for (int odd : FAR_OFF) {
            due("begin(" + odd + ")", x.begin(odd), false);
        }
        due("the start", x.count(9), 1);
        due("he is there", x.places(0, 0), 2);
    }

    static void p06_anotherStart() {
        HueAndCry x = parishes(2);
        x.begin(0);
        due("begin(1)", x.begin(1), true);
        due("the start", x.count(9), 1);
        due("he is there alone", x.places(0, 0), 2);
        due("begin(1) again", x.begin(1), true);
        due("the start", x.count(9), 1);
    }

    static void p06_factsStay() {
        HueAndCry x = parishes(2);
        x.seen(0, 3);
        x.vain(1, 4);
        x.strike(1, true);
        x.begin(1);
        due("facts", x.count(2), 2);
        due("one is struck still", x.count(3), 1);
        due("the other quarrels with the start", x.quarrel(), 1);
        x.begin(0);
        due("facts", x.count(2), 2);
        due("one is struck still", x.count(3), 1);
        due("and with this it does not", x.quarrel(), NONE);
    }

    // ---- promise 7: count

    static void p07_lowestWhat() {
        HueAndCry x = parishes(3);
        due("count(-1)", x.count(-1), NONE);
        due("count(0)", x.count(0), 3);
    }

    static void p07_highestWhat() {
        HueAndCry x = land(3);
        x.begin(2);
        due("count(10)", x.count(10), NONE);
        due("count(9)", x.count(9), 2);
    }

    static void p07_farOff() {
        HueAndCry x = land(3);
        for (int odd : FAR_OFF) {
            due("count(" + odd + ")", x.count(odd), NONE);
        }
    }

    static void p07_noStart() {
        HueAndCry x = parishes(3);
        due("count(9)", x.count(9), NONE);
        x.begin(0);
        due("count(9)", x.count(9), 0);
    }

    static void p07_notStruck() {
        HueAndCry x = parishes(1);
        for (int i = 0; i < 40; i++) {
            x.seen(0, i);
            due("none struck", x.count(3), i + 1);
        }
        for (int i = 0; i < 40; i++) {
            x.strike(i, true);
            due("struck", x.count(3), 39 - i);
            due("all", x.count(2), 40);
        }
    }

    static void p07_allFull() {
        HueAndCry x = parishes(24);
        for (int i = 0; i < 40; i++) {
            x.road(i % 24, (i + 1) % 24, 1);
            x.vain(1, i);
        }
        for (int i = 0; i < 30; i++) {
            x.person(i % 24, 0, 0);
        }
        for (int i = 0; i < 8; i++) {
            enact(x, "n=0:1");
        }
        for (int i = 0; i < 12; i++) {
            x.claim(0, 0);
        }
        x.reward(1);
        for (int i = 0; i < 25; i++) {
            x.sign(0);
        }
        x.begin(23);
        int[] want = {24, 40, 40, 40, 30, 8, 12, 12, 100, 23};
        for (int what = 0; what < want.length; what++) {
            due("count(" + what + ")", x.count(what), want[what]);
        }
    }

    static void p07_eachOfItsOwn() {
        HueAndCry x = parishes(9);
        x.begin(7);
        for (int i = 0; i < 8; i++) {
            x.road(0, 1, 1);
        }
        for (int i = 0; i < 6; i++) {
            x.vain(0, 5);
        }
        x.strike(2, true);
        for (int i = 0; i < 4; i++) {
            x.person(0, 0, 0);
        }
        for (int i = 0; i < 3; i++) {
            x.claim(0, 0);
        }
        x.reward(1);
        x.waive();
        x.claim(0, 0);
        enact(x, "n=0:1");
        enact(x, "n=0:1");
        put(x, "n=0:12345678");
        int[] want = {9, 8, 6, 5, 4, 2, 1, 3, 12, 7};
        for (int what = 0; what < want.length; what++) {
            due("count(" + what + ")", x.count(what), want[what]);
        }
    }

    // ---- promise 8: far

    static void p08_toItself() {
        HueAndCry x = parishes(2);
        due("without a road", x.far(0, 0), 0);
        due("the last one", x.far(1, 1), 0);
        x.road(0, 1, 1);
        due("with a road", x.far(0, 0), 0);
    }

    static void p08_firstParish() {
        HueAndCry x = land(3, 0, 1, 2, 1, 2, 3);
        due("far(-1, 2)", x.far(-1, 2), NONE);
        due("far(3, 2)", x.far(3, 2), NONE);
        due("far(0, 2)", x.far(0, 2), 5);
        due("far(2, 2)", x.far(2, 2), 0);
    }

    static void p08_secondParish() {
        HueAndCry x = land(3, 0, 1, 2, 1, 2, 3);
        due("far(0, -1)", x.far(0, -1), NONE);
        due("far(0, 3)", x.far(0, 3), NONE);
        due("far(0, 0)", x.far(0, 0), 0);
        due("far(0, 2)", x.far(0, 2), 5);
    }

    static void p08_noneSuchToItself() {
        HueAndCry x = parishes(24);
        due("far(-1, -1)", x.far(-1, -1), NONE);
        due("far(24, 24)", x.far(24, 24), NONE);
        due("far(23, 23)", x.far(23, 23), 0);
        for (int odd : FAR_OFF) {
            due("far(" + odd + ", " + odd + ")", x.far(odd, odd), NONE);
            due("far(0, " + odd + ")", x.far(0, odd), NONE);
            due("far(" + odd + ", 0)", x.far(odd, 0), NONE);
        }
    }

    static void p08_noWay() {
        HueAndCry x = parishes(4);
        due("without a road", x.far(0, 1), NONE);
        x.road(0, 1, 1);
        x.road(2, 3, 1);
        due("roads elsewhere", x.far(0, 2), NONE);
        due("back", x.far(3, 1), NONE);
        x.road(1, 2, 1);
        due("joined", x.far(0, 3), 3);
    }

    static void p08_alongOpenRoadsAlone() {
        HueAndCry x = land(2, 0, 1, 1, 0, 1, 9);
        due("the shorter", x.far(0, 1), 1);
        x.shut(0, true);
        due("the longer", x.far(0, 1), 9);
        x.shut(1, true);
        due("none", x.far(0, 1), NONE);
        x.shut(0, false);
        due("the shorter again", x.far(0, 1), 1);
    }

    static void p08_eitherWay() {
        HueAndCry x = land(3, 0, 1, 4, 2, 1, 5);
        due("forth", x.far(0, 2), 9);
        due("back", x.far(2, 0), 9);
    }

    static void p08_leastSum() {
        HueAndCry x = land(4, 0, 3, 7, 0, 1, 2, 1, 2, 2, 2, 3, 2);
        due("three roads are shorter by one hour", x.far(0, 3), 6);
        x.road(3, 0, 6);
        due("as long", x.far(0, 3), 6);
        x.road(3, 0, 5);
        due("one road is shorter", x.far(0, 3), 5);
    }

    static void p08_longestWay() {
        HueAndCry x = parishes(24);
        for (int i = 22; i >= 0; i--) {
            x.road(i, i + 1, 12);
        }
        due("23 roads of 12 hours", x.far(0, 23), 276);
        due("and back", x.far(23, 0), 276);
        due("more than 47 hours don't matter", x.far(0, 4), 48);
    }

    static void p08_withoutStartAndFacts() {
        HueAndCry x = parishes(2);
        x.road(0, 1, 3);
        due("no start", x.far(0, 1), 3);
        x.begin(0);
        x.guarded(0, 1);
        x.seen(0, 47);
        due("facts don't matter", x.far(0, 1), 3);
    }
}
