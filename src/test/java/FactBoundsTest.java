/** Boundary cases of promises 9 to 12: facts. */
public final class FactBoundsTest extends Bounds {
    public static void main(String[] args) {
        runAll(FactBoundsTest.class, 9, 12);
    }

    /** Two parishes, three hours from one another; he is seen to leave 0 at hour 5 and comes to 1 at hour 8. */
    private static HueAndCry leftAtFive() {
        HueAndCry x = land(2, 0, 1, 3);
        x.seen(0, 5);
        x.vain(0, 6);
        due("he may come at 8", x.may(1, 8), 1);
        return x;
    }

    // ---- promise 9: seen

    static void p09_firstParish() {
        HueAndCry x = land(3);
        due("seen(-1, 0)", x.seen(-1, 0), NONE);
        due("none was kept", x.count(2), 0);
        due("seen(0, 0)", x.seen(0, 0), 0);
    }

    static void p09_lastParish() {
        HueAndCry x = land(3);
        due("seen(3, 0)", x.seen(3, 0), NONE);
        due("none was kept", x.count(2), 0);
        due("seen(2, 0)", x.seen(2, 0), 0);
    }

    static void p09_lastParishOfAll() {
        HueAndCry x = parishes(24);
        x.begin(23);
        due("seen(24, 0)", x.seen(24, 0), NONE);
        due("seen(23, 0)", x.seen(23, 0), 0);
        due("he was", x.quarrel(), NONE);
    }

    static void p09_firstHour() {
        HueAndCry x = land(2, 0, 1, 1);
        due("seen(1, -1)", x.seen(1, -1), NONE);
        due("none was kept", x.count(2), 0);
        due("seen(1, 0)", x.seen(1, 0), 0);
        due("he can't have been", x.quarrel(), 1);
    }

    static void p09_lastHour() {
        HueAndCry x = land(2, 0, 1, 1);
        due("seen(1, 48)", x.seen(1, 48), NONE);
        due("none was kept", x.count(2), 0);
        due("seen(1, 47)", x.seen(1, 47), 0);
        due("he was there then", x.places(47, 1), 2);
        due("at 46 he was anywhere", x.places(46, 1), 3);
    }

    static void p09_farOff() {
        HueAndCry x = land(2);
        for (int odd : FAR_OFF) {
            due("seen(" + odd + ", 0)", x.seen(odd, 0), NONE);
            due("seen(0, " + odd + ")", x.seen(0, odd), NONE);
        }
        due("none was kept", x.count(2), 0);
        due("the next has no gap ahead", x.seen(0, 0), 0);
    }

    static void p09_all40() {
        HueAndCry x = land(2, 0, 1, 1);
        for (int i = 0; i < 40; i++) {
            due("seen " + i, x.seen(0, 0), i);
        }
        due("count", x.count(2), 40);
    }

    static void p09_the41st() {
        HueAndCry x = land(2, 0, 1, 1);
        for (int i = 0; i < 40; i++) {
            x.vain(1, 0);
        }
        due("the 41st", x.seen(1, 0), NONE);
        due("count", x.count(2), 40);
        due("it was not kept", x.quarrel(), NONE);
    }

    static void p09_withoutStart() {
        HueAndCry x = parishes(2);
        due("seen(1, 0)", x.seen(1, 0), 0);
        x.begin(0);
        due("it quarrels with the start", x.quarrel(), 1);
    }

    static void p09_theSameTwice() {
        HueAndCry x = land(2);
        due("once", x.seen(1, 0), 0);
        due("twice", x.seen(1, 0), 1);
        due("one struck, the other stands", x.quarrel(), 0);
    }

    static void p09_heWasThereAtThatHourAlone() {
        HueAndCry x = land(2, 0, 1, 1);
        x.seen(0, 5);
        due("ahead of it", x.places(4, 1), 3);
        due("then", x.places(5, 1), 1);
        due("behind it", x.places(6, 1), 3);
    }

    static void p09_onNoRoadThen() {
        for (int hour = 5; hour <= 8; hour++) {
            HueAndCry x = leftAtFive();
            x.seen(hour < 8 ? 0 : 1, hour);
            // At 5 he is at 0 and at 8 at 1; between he is on the road, and can't be seen.
            due("seen at " + hour, x.may(1, 8), hour == 5 || hour == 8 ? 1 : 0);
        }
    }

    static void p09_twoPlacesAtOnce() {
        HueAndCry x = land(2, 0, 1, 1);
        x.seen(0, 5);
        x.seen(1, 5);
        due("nowhere", x.places(5, 0), 0);
        due("either quarrels", x.quarrel(), 3);
        x.strike(0, true);
        due("at the second", x.places(5, 0), 2);
        x.strike(0, false);
        x.strike(1, true);
        due("at the first", x.places(5, 0), 1);
    }

    // ---- promise 10: vain

    static void p10_firstParish() {
        HueAndCry x = land(3);
        due("vain(-1, 0)", x.vain(-1, 0), NONE);
        due("none was kept", x.count(2), 0);
        due("vain(0, 0)", x.vain(0, 0), 0);
    }

    static void p10_lastParish() {
        HueAndCry x = land(3);
        due("vain(3, 0)", x.vain(3, 0), NONE);
        due("none was kept", x.count(2), 0);
        due("vain(2, 0)", x.vain(2, 0), 0);
    }

    static void p10_lastParishOfAll() {
        HueAndCry x = parishes(24);
        x.begin(23);
        due("vain(24, 0)", x.vain(24, 0), NONE);
        due("no quarrel", x.quarrel(), NONE);
        due("vain(23, 0)", x.vain(23, 0), 0);
        due("he was there", x.quarrel(), 1);
    }

    static void p10_firstHour() {
        HueAndCry x = land(1);
        due("vain(0, -1)", x.vain(0, -1), NONE);
        due("none was kept", x.quarrel(), NONE);
        due("vain(0, 0)", x.vain(0, 0), 0);
        due("he was there", x.quarrel(), 1);
    }

    static void p10_lastHour() {
        HueAndCry x = land(1);
        due("vain(0, 48)", x.vain(0, 48), NONE);
        due("none was kept", x.quarrel(), NONE);
        due("vain(0, 47)", x.vain(0, 47), 0);
        due("he was there", x.quarrel(), 1);
        due("at 46 he may be there", x.may(0, 46), 1);
        due("at 47 he may not", x.may(0, 47), 0);
    }

    static void p10_farOff() {
        HueAndCry x = land(2);
        for (int odd : FAR_OFF) {
            due("vain(" + odd + ", 0)", x.vain(odd, 0), NONE);
            due("vain(0, " + odd + ")", x.vain(0, odd), NONE);
        }
        due("none was kept", x.count(2), 0);
        due("the next has no gap ahead", x.vain(0, 0), 0);
    }

    static void p10_all40() {
        HueAndCry x = land(2, 0, 1, 1);
        for (int i = 0; i < 40; i++) {
            due("vain " + i, x.vain(1, 0), i);
        }
        due("count", x.count(2), 40);
    }

    static void p10_the41st() {
        HueAndCry x = land(2, 0, 1, 1);
        for (int i = 0; i < 40; i++) {
            x.seen(0, 0);
        }
        due("the 41st", x.vain(0, 0), NONE);
        due("count", x.count(2), 40);
        due("it was not kept", x.quarrel(), NONE);
    }

    static void p10_withoutStart() {
        HueAndCry x = parishes(2);
        due("vain(0, 0)", x.vain(0, 0), 0);
        x.begin(0);
        due("it quarrels with the start", x.quarrel(), 1);
    }

    static void p10_atThatHourAlone() {
        HueAndCry x = land(2, 0, 1, 1);
        x.vain(0, 5);
        due("ahead of it", x.places(4, 1), 3);
        due("then", x.places(5, 1), 2);
        due("behind it", x.places(6, 1), 3);
    }

    static void p10_onARoadHeMayBe() {
        HueAndCry x = leftAtFive();
        for (int hour = 6; hour <= 7; hour++) {
            x.vain(0, hour);
            x.vain(1, hour);
        }
        due("between", x.may(1, 8), 1);
        x.vain(1, 8);
        due("as he comes", x.may(1, 8), 0);
    }

    static void p10_allParishesAtOnce() {
        HueAndCry x = land(2, 0, 1, 1);
        x.vain(0, 5);
        x.vain(1, 5);
        due("a road of one hour hides no one", x.places(5, 0), 0);
        due("both quarrel", x.quarrel(), 3);
        HueAndCry y = land(2, 0, 1, 2);
        y.vain(0, 5);
        y.vain(1, 5);
        due("nowhere", y.places(5, 0), 0);
        due("a road of two does", y.quarrel(), NONE);
    }

    static void p10_seenAndLookedForInVain() {
        HueAndCry x = land(2, 0, 1, 1);
        x.vain(1, 5);
        x.seen(1, 5);
        due("vain ahead of seen", x.quarrel(), 3);
        HueAndCry y = land(2, 0, 1, 1);
        y.seen(1, 5);
        y.vain(1, 5);
        due("seen ahead of vain", y.quarrel(), 3);
        HueAndCry z = land(2, 0, 1, 1);
        z.seen(1, 5);
        z.vain(0, 5);
        due("elsewhere they agree", z.quarrel(), NONE);
        due("he was there", z.places(5, 1), 2);
    }

    // ---- promise 11: guarded

    static void p11_firstRoad() {
        HueAndCry x = land(2, 0, 1, 2, 0, 1, 2);
        due("guarded(-1, 0)", x.guarded(-1, 0), NONE);
        due("none was kept", x.count(2), 0);
        due("guarded(0, 0)", x.guarded(0, 0), 0);
    }

    static void p11_lastRoad() {
        HueAndCry x = land(2, 0, 1, 2, 0, 1, 2);
        due("guarded(2, 0)", x.guarded(2, 0), NONE);
        due("none was kept", x.count(2), 0);
        due("guarded(1, 0)", x.guarded(1, 0), 0);
    }

    static void p11_aRoadNotAParish() {
        HueAndCry x = land(5, 0, 1, 2);
        due("parish 1 is no road 1", x.guarded(1, 0), NONE);
        HueAndCry y = land(2, 0, 1, 2, 0, 1, 2, 0, 1, 2);
        due("road 2, where there is no parish 2", y.guarded(2, 0), 0);
        due("road 2 is no parish 2", y.seen(2, 0), NONE);
        due("nor looked for in vain", y.vain(2, 0), NONE);
    }

    static void p11_lastRoadOfAll() {
        HueAndCry x = land(2);
        for (int i = 0; i < 40; i++) {
            x.road(0, 1, i < 39 ? 12 : 2);
        }
        due("guarded(40, 1)", x.guarded(40, 1), NONE);
        due("he may", x.may(1, 2), 1);
        due("guarded(39, 1)", x.guarded(39, 1), 0);
        due("he may not", x.may(1, 2), 0);
    }

    static void p11_firstHour() {
        HueAndCry x = land(2, 0, 1, 2);
        due("guarded(0, -1)", x.guarded(0, -1), NONE);
        due("none was kept", x.count(2), 0);
        due("guarded(0, 0)", x.guarded(0, 0), 0);
        due("no one is on a road at 0", x.may(1, 2), 1);
    }

    static void p11_lastHour() {
        HueAndCry x = land(2, 0, 1, 2);
        x.vain(0, 47);
        x.vain(1, 47);
        due("guarded(0, 48)", x.guarded(0, 48), NONE);
        due("none was kept", x.quarrel(), NONE);
        due("guarded(0, 47)", x.guarded(0, 47), 2);
        due("nor was he on the road", x.quarrel(), 7);
    }

    static void p11_farOff() {
        HueAndCry x = land(2, 0, 1, 2);
        for (int odd : FAR_OFF) {
            due("guarded(" + odd + ", 0)", x.guarded(odd, 0), NONE);
            due("guarded(0, " + odd + ")", x.guarded(0, odd), NONE);
        }
        due("none was kept", x.count(2), 0);
        due("the next has no gap ahead", x.guarded(0, 0), 0);
    }

    static void p11_all40() {
        HueAndCry x = land(2, 0, 1, 2);
        for (int i = 0; i < 40; i++) {
            due("guarded " + i, x.guarded(0, i), i);
        }
        due("count", x.count(2), 40);
        due("at hour 40 he may leave", x.first(1), 41);
    }

    static void p11_the41st() {
        HueAndCry x = land(2, 0, 1, 2);
        for (int i = 0; i < 40; i++) {
            x.seen(0, 0);
        }
        due("the 41st", x.guarded(0, 1), NONE);
        due("count", x.count(2), 40);
        due("it was not kept", x.may(1, 2), 1);
    }

    static void p11_hoursBetween() {
        for (int hour = 4; hour <= 9; hour++) {
            HueAndCry x = leftAtFive();
            x.guarded(0, hour);
            due("guarded at " + hour, x.may(1, 8), hour == 6 || hour == 7 ? 0 : 1);
        }
    }

    static void p11_hoursBetweenTheOtherWay() {
        for (int hour = 4; hour <= 9; hour++) {
            HueAndCry x = land(2, 1, 0, 3);
            x.seen(0, 5);
            x.vain(0, 6);
            x.guarded(0, hour);
            due("guarded at " + hour, x.may(1, 8), hour == 6 || hour == 7 ? 0 : 1);
        }
    }

    static void p11_aRoadOfOneHour() {
        for (int hour = 4; hour <= 7; hour++) {
            HueAndCry x = land(2, 0, 1, 1);
            x.seen(0, 5);
            x.guarded(0, hour);
            due("guarded at " + hour, x.may(1, 6), 1);
        }
    }

    static void p11_aRoadOfTwoHours() {
        for (int hour = 4; hour <= 8; hour++) {
            HueAndCry x = land(2, 0, 1, 2);
            x.seen(0, 5);
            x.guarded(0, hour);
            due("guarded at " + hour, x.may(1, 7), hour == 6 ? 0 : 1);
        }
    }

    static void p11_aRoadOfTwelveHours() {
        for (int hour = 4; hour <= 18; hour++) {
            HueAndCry x = land(2, 0, 1, 12);
            x.seen(0, 5);
            x.guarded(0, hour);
            due("guarded at " + hour, x.may(1, 17), hour > 5 && hour < 17 ? 0 : 1);
        }
    }

    static void p11_thatRoadAlone() {
        HueAndCry x = land(2, 0, 1, 2, 0, 1, 2);
        x.guarded(0, 1);
        due("by the other", x.may(1, 2), 1);
        x.guarded(1, 1);
        due("by none", x.may(1, 2), 0);
    }

    static void p11_aShutRoad() {
        HueAndCry x = land(2, 0, 1, 2);
        x.shut(0, true);
        due("guarded(0, 1)", x.guarded(0, 1), 0);
        due("no quarrel", x.quarrel(), NONE);
        x.shut(0, false);
        due("it was guarded all the same", x.may(1, 2), 0);
    }

    // ---- promise 12: strike

    static void p12_firstFact() {
        HueAndCry x = land(2);
        x.seen(1, 0);
        x.seen(1, 0);
        due("strike(-1)", x.strike(-1, true), false);
        due("none is struck", x.count(3), 2);
        due("strike(0)", x.strike(0, true), true);
        due("one is struck", x.count(3), 1);
        due("the other quarrels alone", x.quarrel(), 2);
    }

    static void p12_lastFact() {
        HueAndCry x = land(2);
        x.seen(1, 0);
        x.seen(1, 0);
        due("strike(2)", x.strike(2, true), false);
        due("none is struck", x.count(3), 2);
        due("strike(1)", x.strike(1, true), true);
        due("one is struck", x.count(3), 1);
        due("the other quarrels alone", x.quarrel(), 1);
    }

    static void p12_lastFactOfAll() {
        HueAndCry x = land(2);
        for (int i = 0; i < 39; i++) {
            x.seen(0, i);
        }
        x.seen(1, 0);
        due("strike(40)", x.strike(40, true), false);
        due("none is struck", x.count(3), 40);
        due("strike(39)", x.strike(39, true), true);
        due("one is struck", x.count(3), 39);
        due("no quarrel", x.quarrel(), NONE);
    }

    static void p12_farOff() {
        HueAndCry x = land(2);
        x.seen(1, 0);
        for (int odd : FAR_OFF) {
            due("strike(" + odd + ")", x.strike(odd, true), false);
        }
        due("none is struck", x.count(3), 1);
        due("the quarrel stays", x.quarrel(), 1);
    }

    static void p12_notStruckAnew() {
        HueAndCry x = land(2);
        x.seen(1, 0);
        x.strike(0, true);
        due("no quarrel", x.quarrel(), NONE);
        due("strike(-1, false)", x.strike(-1, false), false);
        due("strike(1, false)", x.strike(1, false), false);
        due("still struck", x.count(3), 0);
        due("strike(0, false)", x.strike(0, false), true);
        due("not struck", x.count(3), 1);
        due("the quarrel again", x.quarrel(), 1);
    }

    static void p12_asItIsAlready() {
        HueAndCry x = land(2);
        x.seen(1, 0);
        due("not struck is not struck", x.strike(0, false), true);
        due("count(3)", x.count(3), 1);
        x.strike(0, true);
        due("struck is struck", x.strike(0, true), true);
        due("count(3)", x.count(3), 0);
        due("once is enough to end it", x.strike(0, false), true);
        due("count(3)", x.count(3), 1);
    }

    static void p12_aFactNotYetTold() {
        HueAndCry x = land(2);
        due("strike(0)", x.strike(0, true), false);
        x.seen(1, 0);
        due("it stands when it is told", x.quarrel(), 1);
    }

    static void p12_struckFactsCountToo() {
        HueAndCry x = land(2);
        for (int i = 0; i < 40; i++) {
            x.seen(1, 0);
            x.strike(i, true);
        }
        due("the 41st", x.seen(0, 0), NONE);
        due("facts", x.count(2), 40);
        due("not struck", x.count(3), 0);
        due("no quarrel", x.quarrel(), NONE);
    }

    static void p12_eachKind() {
        HueAndCry x = land(2, 0, 1, 2);
        x.seen(0, 2);
        x.vain(1, 2);
        x.guarded(0, 1);
        due("all say no", x.may(1, 2), 0);
        x.strike(0, true);
        due("two say no", x.may(1, 2), 0);
        x.strike(1, true);
        due("one says no", x.may(1, 2), 0);
        x.strike(2, true);
        due("none says no", x.may(1, 2), 1);
        x.strike(0, false);
        due("seen elsewhere", x.may(1, 2), 0);
        x.strike(0, true);
        x.strike(1, false);
        due("looked for in vain", x.may(1, 2), 0);
    }
}
