/** Boundary cases of promises 13 to 19: where he is. */
public final class ChaseBoundsTest extends Bounds {
    public static void main(String[] args) {
        runAll(ChaseBoundsTest.class, 13, 19);
    }

    /** Parish 0 in the middle, a road of one hour to each other one. */
    private static HueAndCry star(int parishes) {
        HueAndCry x = land(parishes);
        for (int i = 1; i < parishes; i++) {
            x.road(0, i, 1);
        }
        return x;
    }

    // ---- promise 13: may

    static void p13_firstParish() {
        HueAndCry x = land(3);
        due("may(-1, 0)", x.may(-1, 0), NONE);
        due("may(0, 0)", x.may(0, 0), 1);
    }

    static void p13_lastParish() {
        HueAndCry x = land(3);
        due("may(3, 0)", x.may(3, 0), NONE);
        due("may(2, 0)", x.may(2, 0), 0);
        x.begin(2);
        due("may(2, 0)", x.may(2, 0), 1);
    }

    static void p13_lastParishOfAll() {
        HueAndCry x = parishes(24);
        x.begin(23);
        due("may(24, 0)", x.may(24, 0), NONE);
        due("may(23, 0)", x.may(23, 0), 1);
        due("may(22, 0)", x.may(22, 0), 0);
    }

    static void p13_firstHour() {
        HueAndCry x = land(2, 0, 1, 1);
        due("may(0, -1)", x.may(0, -1), NONE);
        due("may(0, 0)", x.may(0, 0), 1);
        due("may(1, 0)", x.may(1, 0), 0);
    }

    static void p13_lastHour() {
        HueAndCry x = land(2, 0, 1, 1);
        due("may(0, 48)", x.may(0, 48), NONE);
        due("may(0, 47)", x.may(0, 47), 1);
        due("may(1, 47)", x.may(1, 47), 1);
    }

    static void p13_farOff() {
        HueAndCry x = land(1);
        for (int odd : FAR_OFF) {
            due("may(" + odd + ", 0)", x.may(odd, 0), NONE);
            due("may(0, " + odd + ")", x.may(0, odd), NONE);
        }
    }

    static void p13_noStart() {
        HueAndCry x = parishes(1);
        due("no start", x.may(0, 0), NONE);
        due("nor later", x.may(0, 47), NONE);
        x.begin(0);
        due("a start", x.may(0, 0), 1);
    }

    static void p13_shortestRoad() {
        HueAndCry x = land(2, 0, 1, 1);
        due("at 0", x.may(1, 0), 0);
        due("at 1", x.may(1, 1), 1);
    }

    static void p13_longestRoad() {
        HueAndCry x = land(2, 0, 1, 12);
        due("at 11", x.may(1, 11), 0);
        due("at 12", x.may(1, 12), 1);
        due("at 13, he waited an hour", x.may(1, 13), 1);
    }

    static void p13_staysOfNoHours() {
        HueAndCry x = line(4);
        due("at 2", x.may(3, 2), 0);
        due("at 3", x.may(3, 3), 1);
    }

    static void p13_justInTime() {
        HueAndCry x = land(5, 0, 1, 12, 1, 2, 12, 2, 3, 12, 3, 4, 11);
        due("at 46", x.may(4, 46), 0);
        due("at 47", x.may(4, 47), 1);
    }

    static void p13_eitherWayAlongARoad() {
        HueAndCry x = land(3, 1, 0, 2, 1, 2, 2);
        due("against the first, along the second", x.may(2, 4), 1);
        x.begin(2);
        due("against the second, along the first", x.may(0, 4), 1);
        due("not earlier", x.may(0, 3), 0);
    }

    static void p13_factsUpToThatHour() {
        HueAndCry x = land(2, 0, 1, 1);
        x.seen(0, 6);
        due("ahead of the fact", x.may(1, 5), 1);
        due("at its hour", x.may(1, 6), 0);
        due("behind it", x.may(1, 7), 1);
    }

    static void p13_vainUpToThatHour() {
        HueAndCry x = land(1);
        x.vain(0, 6);
        due("ahead of the fact", x.may(0, 5), 1);
        due("at its hour", x.may(0, 6), 0);
        due("behind it", x.may(0, 7), 0);
        due("at the end", x.may(0, 47), 0);
    }

    static void p13_onARoadIsAtNoParish() {
        HueAndCry x = land(2, 0, 1, 3);
        x.vain(0, 1);
        due("0 at 1", x.may(0, 1), 0);
        due("1 at 1", x.may(1, 1), 0);
        due("1 at 2", x.may(1, 2), 0);
        due("1 at 3", x.may(1, 3), 1);
        due("0 at 5", x.may(0, 5), 0);
        due("0 at 6", x.may(0, 6), 1);
    }

    static void p13_shutRoad() {
        HueAndCry x = land(2, 0, 1, 1);
        x.shut(0, true);
        due("at the end", x.may(1, 47), 0);
        x.shut(0, false);
        due("at 1", x.may(1, 1), 1);
    }

    static void p13_shutRoadsLeadNowhere() {
        HueAndCry x = line(4);
        x.begin(3);
        x.shut(0, true);
        due("to the first parish", x.may(0, 47), 0);
        due("as far as the roads are open", x.places(47, 0), 14);
        due("ahead of the end", x.places(47, 1), 14);
    }

    // ---- promise 14: was

    static void p14_firstParish() {
        HueAndCry x = land(3);
        due("was(-1, 0)", x.was(-1, 0), NONE);
        due("was(0, 0)", x.was(0, 0), 1);
    }

    static void p14_lastParish() {
        HueAndCry x = land(3);
        due("was(3, 0)", x.was(3, 0), NONE);
        due("was(2, 0)", x.was(2, 0), 0);
        x.begin(2);
        due("was(2, 0)", x.was(2, 0), 1);
    }

    static void p14_lastParishOfAll() {
        HueAndCry x = parishes(24);
        x.begin(23);
        due("was(24, 0)", x.was(24, 0), NONE);
        due("was(23, 0)", x.was(23, 0), 1);
        due("was(22, 0)", x.was(22, 0), 0);
    }

    static void p14_firstHour() {
        HueAndCry x = land(2, 0, 1, 1);
        due("was(0, -1)", x.was(0, -1), NONE);
        due("was(0, 0)", x.was(0, 0), 1);
        due("was(1, 0)", x.was(1, 0), 0);
    }

    static void p14_lastHour() {
        HueAndCry x = land(2, 0, 1, 1);
        due("was(0, 48)", x.was(0, 48), NONE);
        due("was(0, 47)", x.was(0, 47), 1);
        due("was(1, 47)", x.was(1, 47), 1);
    }

    static void p14_farOff() {
        HueAndCry x = land(1);
        for (int odd : FAR_OFF) {
            due("was(" + odd + ", 0)", x.was(odd, 0), NONE);
            due("was(0, " + odd + ")", x.was(0, odd), NONE);
        }
    }

    static void p14_noStart() {
        HueAndCry x = parishes(1);
        due("no start", x.was(0, 0), NONE);
        due("nor later", x.was(0, 47), NONE);
        x.begin(0);
        due("a start", x.was(0, 0), 1);
    }

    static void p14_backJustInTime() {
        HueAndCry x = land(2, 0, 1, 5);
        x.seen(0, 12);
        due("come too early", x.was(1, 4), 0);
        due("come", x.was(1, 5), 1);
        due("left to be back", x.was(1, 7), 1);
        due("left too late", x.was(1, 8), 0);
    }

    static void p14_laterFactsMatter() {
        HueAndCry x = land(2, 0, 1, 1);
        x.vain(0, 47);
        x.vain(1, 46);
        due("at 47", x.was(0, 47), 0);
        due("1 at 47", x.was(1, 47), 1);
        due("0 at 46", x.was(0, 46), 1);
        x.vain(1, 47);
        due("none agrees", x.was(0, 0), 0);
        due("none at 46", x.was(0, 46), 0);
        due("yet he may be there", x.may(0, 46), 1);
    }

    static void p14_onARoadAtTheEnd() {
        HueAndCry two = land(2, 0, 1, 2);
        two.vain(0, 47);
        two.vain(1, 47);
        due("a road of two hours, begun at 46", two.was(0, 46), 1);
        HueAndCry one = land(2, 0, 1, 1);
        one.vain(0, 47);
        one.vain(1, 47);
        due("a road of one hour", one.was(0, 46), 0);
        due("nor at the start", one.was(0, 0), 0);
    }

    static void p14_onALongRoadAtTheEnd() {
        HueAndCry x = land(2, 0, 1, 12);
        for (int hour = 37; hour < 48; hour++) {
            x.vain(0, hour);
            x.vain(1, hour);
        }
        due("begun at 36, come at 48", x.was(0, 36), 1);
        due("from the other side, too", x.was(1, 36), 1);
        x.vain(0, 36);
        due("begun at 35, come at 47: in vain", x.was(0, 35), 0);
        due("the other side still", x.was(1, 36), 1);
    }

    static void p14_guardedAtTheEnd() {
        HueAndCry x = land(2, 0, 1, 3);
        x.vain(0, 47);
        x.vain(1, 47);
        x.guarded(0, 46);
        due("begun at 46, on it at 47 alone", x.was(0, 46), 1);
        x.vain(0, 46);
        x.vain(1, 46);
        due("begun at 45 he was on it at 46", x.was(0, 45), 0);
        due("the facts of 46", x.quarrel(), 4 | 8 | 16);
    }

    // ---- promise 15: places

    static void p15_firstHour() {
        HueAndCry x = land(2, 0, 1, 1);
        due("places(-1, 0)", x.places(-1, 0), NONE);
        due("places(-1, 1)", x.places(-1, 1), NONE);
        due("places(0, 0)", x.places(0, 0), 1);
        due("places(0, 1)", x.places(0, 1), 1);
    }

    static void p15_lastHour() {
        HueAndCry x = land(2, 0, 1, 1);
        due("places(48, 0)", x.places(48, 0), NONE);
        due("places(48, 1)", x.places(48, 1), NONE);
        due("places(47, 0)", x.places(47, 0), 3);
        due("places(47, 1)", x.places(47, 1), 3);
    }

    static void p15_lowestWhat() {
        HueAndCry x = land(2, 0, 1, 1);
        x.seen(0, 2);
        due("places(1, -1)", x.places(1, -1), NONE);
        due("places(1, 0)", x.places(1, 0), 3);
    }

    static void p15_highestWhat() {
        HueAndCry x = land(2, 0, 1, 2);
        x.seen(0, 3);
        due("places(2, 2)", x.places(2, 2), NONE);
        due("places(2, 1)", x.places(2, 1), 1);
        due("places(2, 0)", x.places(2, 0), 3);
    }

    static void p15_farOff() {
        HueAndCry x = land(1);
        for (int odd : FAR_OFF) {
            due("places(" + odd + ", 0)", x.places(odd, 0), NONE);
            due("places(" + odd + ", 1)", x.places(odd, 1), NONE);
            due("places(0, " + odd + ")", x.places(0, odd), NONE);
        }
    }

    static void p15_noStart() {
        HueAndCry x = parishes(1);
        due("may", x.places(0, 0), NONE);
        due("may have been", x.places(0, 1), NONE);
        x.begin(0);
        due("may", x.places(0, 0), 1);
        due("may have been", x.places(0, 1), 1);
    }

    static void p15_nowhere() {
        HueAndCry x = land(1);
        x.vain(0, 9);
        due("may at 8", x.places(8, 0), 1);
        due("may have been at 8", x.places(8, 1), 0);
        due("may at 9", x.places(9, 0), 0);
        due("may at 47", x.places(47, 0), 0);
    }

    static void p15_everywhere() {
        HueAndCry x = star(24);
        due("may at 0", x.places(0, 0), 1);
        due("may at 1", x.places(1, 0), (1 << 24) - 1);
        due("may have been at 47", x.places(47, 1), (1 << 24) - 1);
    }

    static void p15_lastParishAsABit() {
        HueAndCry x = parishes(24);
        x.begin(23);
        due("may", x.places(0, 0), 1 << 23);
        due("may have been", x.places(47, 1), 1 << 23);
    }

    // ---- promise 16: first

    static void p16_firstParish() {
        HueAndCry x = land(2, 0, 1, 1);
        due("first(-1)", x.first(-1), NONE);
        due("first(0)", x.first(0), 0);
    }

    static void p16_lastParish() {
        HueAndCry x = land(2, 0, 1, 1);
        due("first(2)", x.first(2), NONE);
        due("first(1)", x.first(1), 1);
        HueAndCry full = star(24);
        due("first(24)", full.first(24), NONE);
        due("first(23)", full.first(23), 1);
    }

    static void p16_farOff() {
        HueAndCry x = land(1);
        for (int odd : FAR_OFF) {
            due("first(" + odd + ")", x.first(odd), NONE);
        }
    }

    static void p16_noStart() {
        HueAndCry x = parishes(1);
        due("no start", x.first(0), NONE);
        x.begin(0);
        due("a start", x.first(0), 0);
    }

    static void p16_noWay() {
        HueAndCry x = land(2);
        due("no road", x.first(1), NONE);
        x.road(0, 1, 1);
        x.shut(0, true);
        due("a shut one", x.first(1), NONE);
    }

    static void p16_lastHour() {
        HueAndCry in = land(5, 0, 1, 12, 1, 2, 12, 2, 3, 12, 3, 4, 11);
        due("47 hours", in.first(4), 47);
        HueAndCry out = land(5, 0, 1, 12, 1, 2, 12, 2, 3, 12, 3, 4, 12);
        due("48 hours", out.first(4), NONE);
        due("though it is no farther than that", out.far(0, 4), 48);
    }

    static void p16_factsMakeItLater() {
        HueAndCry x = land(2, 0, 1, 2);
        x.vain(1, 2);
        due("not found at 2", x.first(1), 3);
        x.guarded(0, 2);
        due("guarded at 2", x.first(1), 4);
        x.vain(1, 47);
        due("later facts don't matter", x.first(1), 4);
    }

    static void p16_factsBehindThatHour() {
        HueAndCry x = land(2, 0, 1, 2);
        x.seen(0, 3);
        due("he has not been there at 2", x.was(1, 2), 0);
        due("yet he may be", x.first(1), 2);
    }

    static void p16_factsMakeItNever() {
        HueAndCry x = land(2, 0, 1, 1);
        x.vain(0, 0);
        due("not even at the start", x.first(0), NONE);
        due("nor elsewhere", x.first(1), NONE);
    }

    static void p16_lastHourByFacts() {
        HueAndCry x = land(2, 0, 1, 12);
        for (int hour = 12; hour < 47; hour++) {
            x.vain(1, hour);
        }
        due("at 47 alone", x.first(1), 47);
        x.vain(1, 47);
        due("never", x.first(1), NONE);
    }

    // ---- promise 17: trail

    static void p17_firstParish() {
        HueAndCry x = land(2, 0, 1, 1);
        due("trail(-1, 0)", x.trail(-1, 0), NONE);
        dueRow("none told", x);
        due("trail(0, 0)", x.trail(0, 0), 1);
        dueRow("the start alone", x, 0);
    }

    static void p17_lastParish() {
        HueAndCry x = land(2, 0, 1, 1);
        due("trail(2, 1)", x.trail(2, 1), NONE);
        due("trail(1, 1)", x.trail(1, 1), 2);
        dueRow("told", x, 0, 1);
        HueAndCry full = star(24);
        due("trail(24, 1)", full.trail(24, 1), NONE);
        due("trail(23, 1)", full.trail(23, 1), 2);
        dueRow("told", full, 0, 23);
    }

    static void p17_firstHour() {
        HueAndCry x = land(1);
        due("trail(0, -1)", x.trail(0, -1), NONE);
        dueRow("none told", x);
        due("trail(0, 0)", x.trail(0, 0), 1);
    }

    static void p17_lastHour() {
        HueAndCry x = land(2, 0, 1, 1);
        due("trail(1, 48)", x.trail(1, 48), NONE);
        dueRow("none told", x);
        due("trail(1, 47)", x.trail(1, 47), 2);
        dueRow("told", x, 0, 1);
    }

    static void p17_farOff() {
        HueAndCry x = land(1);
        for (int odd : FAR_OFF) {
            due("trail(" + odd + ", 0)", x.trail(odd, 0), NONE);
            due("trail(0, " + odd + ")", x.trail(0, odd), NONE);
        }
        dueRow("none told", x);
    }

    static void p17_noStart() {
        HueAndCry x = parishes(1);
        due("no start", x.trail(0, 0), NONE);
        dueRow("none told", x);
    }

    static void p17_heMayNotBeThere() {
        HueAndCry x = land(2, 0, 1, 2);
        due("not yet", x.trail(1, 1), 0);
        dueRow("none told", x);
        due("then", x.trail(1, 2), 2);
        due("not yet", x.trail(1, 1), 0);
        dueRow("the row stays", x, 0, 1);
        due("NONE", x.trail(1, 48), NONE);
        dueRow("the row stays", x, 0, 1);
    }

    static void p17_staysAreNotTold() {
        HueAndCry x = land(2, 0, 1, 1);
        due("47 hours at the start", x.trail(0, 47), 1);
        dueRow("once", x, 0);
    }

    static void p17_heStayedIfHeMayHave() {
        HueAndCry x = land(2, 0, 1, 1);
        due("there at 1 already", x.trail(1, 9), 2);
        dueRow("not to and fro", x, 0, 1);
        x.vain(1, 8);
        due("not there at 8", x.trail(1, 9), 2);
        dueRow("he left at 8", x, 0, 1);
        x.vain(0, 7);
        due("from 1 at 7, at 0 at 8", x.trail(1, 9), 4);
        dueRow("to and fro", x, 0, 1, 0, 1);
    }

    static void p17_roadOfTheLeastNumber() {
        HueAndCry x = land(4, 2, 1, 1, 0, 2, 1, 0, 1, 2, 0, 3, 1, 3, 1, 1);
        due("road 0 of 0, 2, 4", x.trail(1, 2), 3);
        dueRow("by 2", x, 0, 2, 1);
        x.shut(0, true);
        due("road 2 of 2, 4", x.trail(1, 2), 2);
        dueRow("straight", x, 0, 1);
        x.guarded(2, 1);
        due("road 4", x.trail(1, 2), 3);
        dueRow("by 3", x, 0, 3, 1);
        x.vain(3, 1);
        due("none", x.trail(1, 2), 0);
    }

    static void p17_factsOfThatHourCount() {
        HueAndCry x = land(2, 0, 1, 1);
        x.vain(1, 5);
        due("at the hour of the fact", x.trail(1, 5), 0);
        due("an hour ahead", x.trail(1, 4), 2);
        due("an hour behind", x.trail(1, 6), 2);
        dueRow("told", x, 0, 1);
    }

    static void p17_factsBehindThatHour() {
        HueAndCry x = land(2, 0, 1, 2);
        x.seen(0, 3);
        due("he has not been there at 2", x.was(1, 2), 0);
        due("yet he may be", x.trail(1, 2), 2);
        dueRow("told", x, 0, 1);
        due("at 3 he may not", x.trail(1, 3), 0);
    }

    static void p17_longestOfAll() {
        HueAndCry x = line(24);
        x.seen(23, 23);
        x.vain(1, 46);
        // There at once, back at once, and once more away: no hour is left for a stay.
        due("48 parishes", x.trail(1, 47), 48);
        due("count(7)", x.count(7), 48);
        for (int i = 0; i < 48; i++) {
            int at = i <= 23 ? i : i <= 46 ? 46 - i : 1;
            due("row(" + i + ")", number(x, i), at);
        }
        due("row(48)", number(x, 48), THROWN);
    }

    static void p17_aLineOfAllParishes() {
        HueAndCry x = line(24);
        due("a day's way", x.trail(23, 23), 24);
        due("first", number(x, 0), 0);
        due("last", number(x, 23), 23);
        due("behind it", number(x, 24), THROWN);
        due("an hour too early", x.trail(23, 22), 0);
    }

    // ---- promise 18: quarrel

    static void p18_noStart() {
        HueAndCry x = parishes(2);
        due("no facts", x.quarrel(), 0);
        x.seen(0, 0);
        x.seen(1, 0);
        due("facts that quarrel", x.quarrel(), 0);
        x.begin(0);
        due("with a start", x.quarrel(), 2);
    }

    static void p18_noFacts() {
        due("no facts", land(1).quarrel(), NONE);
    }

    static void p18_allStruck() {
        HueAndCry x = land(2);
        x.seen(1, 0);
        x.vain(0, 0);
        x.strike(0, true);
        x.strike(1, true);
        due("all struck", x.quarrel(), NONE);
    }

    static void p18_oneFact() {
        HueAndCry x = land(1);
        x.vain(0, 0);
        due("fact 0", x.quarrel(), 1);
        HueAndCry y = land(1);
        y.vain(0, 47);
        due("of the last hour", y.quarrel(), 1);
    }

    static void p18_noneAloneMendsIt() {
        HueAndCry x = land(1);
        x.vain(0, 3);
        x.vain(0, 4);
        due("two that forbid", x.quarrel(), 0);
        x.strike(1, true);
        due("one of them", x.quarrel(), 1);
    }

    static void p18_struckFactsAreNotTold() {
        HueAndCry x = land(1);
        x.vain(0, 3);
        x.vain(0, 4);
        x.strike(0, true);
        due("fact 1 alone", x.quarrel(), 2);
    }

    static void p18_eachBit() {
        for (int fact = 0; fact < 40; fact++) {
            HueAndCry x = land(2, 0, 1, 1);
            for (int i = 0; i < 40; i++) {
                if (i == fact) {
                    x.vain(0, 0);
                } else {
                    x.vain(1, 0);
                }
            }
            due("fact " + fact, x.quarrel(), 1L << fact);
        }
    }

    static void p18_allBits() {
        HueAndCry x = land(24);
        for (int i = 1; i < 24; i++) {
            x.road(0, i, i <= 16 ? 2 : 1);
        }
        for (int i = 0; i < 24; i++) {
            x.vain(i, 47);
        }
        for (int i = 0; i < 15; i++) {
            x.guarded(i, 47);
        }
        due("one road is left", x.quarrel(), NONE);
        x.guarded(15, 47);
        due("all 40", x.quarrel(), (1L << 40) - 1);
    }

    static void p18_onARoadAtTheEnd() {
        HueAndCry x = land(2, 0, 1, 2);
        x.vain(0, 47);
        x.vain(1, 47);
        due("begun at 46", x.quarrel(), NONE);
        x.guarded(0, 47);
        due("guarded", x.quarrel(), 7);
    }

    static void p18_aGuardThatMends() {
        HueAndCry x = land(2, 0, 1, 3);
        x.seen(0, 5);
        x.guarded(0, 5);
        x.guarded(0, 6);
        x.guarded(0, 8);
        x.seen(1, 8);
        due("guards of the ends don't matter", x.quarrel(), 1 | 4 | 16);
    }

    static void p18_justInTime() {
        HueAndCry x = land(2, 0, 1, 12);
        x.seen(0, 20);
        x.seen(1, 32);
        due("12 hours", x.quarrel(), NONE);
        x.seen(0, 43);
        due("11 hours", x.quarrel(), 2 | 4);
    }

    static void p18_twoFactsOfOneHour() {
        for (int hour : new int[] {0, 20, 46, 47}) {
            HueAndCry x = land(1);
            x.vain(0, hour);
            x.vain(0, hour);
            due("two that forbid hour " + hour, x.quarrel(), 0);
            HueAndCry y = land(2, 0, 1, 2);
            y.vain(0, 47);
            y.vain(1, 47);
            y.guarded(0, 47);
            y.guarded(0, 47);
            due("one of two guards does not mend it", y.quarrel(), 3);
        }
    }

    static void p18_leftAtHour0() {
        for (int hours = 2; hours <= 12; hours++) {
            HueAndCry x = land(2, 0, 1, hours);
            x.vain(0, 1);
            due("on the road", x.quarrel(), NONE);
            x.guarded(0, 1);
            due("a road of " + hours + " hours", x.quarrel(), 3);
        }
    }

    static void p18_allRoadsFull() {
        HueAndCry x = land(2);
        for (int i = 0; i < 39; i++) {
            x.road(0, 1, 12);
        }
        x.road(0, 1, 3);
        x.vain(0, 1);
        x.seen(1, 3);
        due("by the last road", x.quarrel(), NONE);
        x.guarded(39, 2);
        due("guarded", x.quarrel(), 4 | 2);
        x.seen(0, 30);
        x.seen(1, 30);
        due("and no one fact to mend it", x.quarrel(), 0);
    }

    // ---- promise 19: watch

    static void p19_lowestT() {
        HueAndCry x = land(2, 0, 1, 1);
        x.exit(0, true);
        due("watch(-1, 0)", x.watch(-1, 0), NONE);
        dueRow("none told", x);
        due("watch(0, 0)", x.watch(0, 0), 1);
        dueRow("told", x, 0);
    }

    static void p19_highestU() {
        HueAndCry x = land(2, 0, 1, 1);
        x.exit(1, true);
        due("watch(47, 48)", x.watch(47, 48), NONE);
        due("watch(48, 48)", x.watch(48, 48), NONE);
        dueRow("none told", x);
        due("watch(47, 47)", x.watch(47, 47), 1);
        dueRow("told", x, 1);
        due("watch(0, 47)", x.watch(0, 47), 1);
        dueRow("told", x, 0);
    }

    static void p19_uNotBelowT() {
        HueAndCry x = land(2, 0, 1, 1);
        x.exit(1, true);
        due("watch(5, 4)", x.watch(5, 4), NONE);
        due("watch(47, 0)", x.watch(47, 0), NONE);
        dueRow("none told", x);
        due("watch(5, 5)", x.watch(5, 5), 1);
        due("watch(5, 6)", x.watch(5, 6), 1);
    }

    static void p19_farOff() {
        HueAndCry x = land(1);
        for (int odd : FAR_OFF) {
            due("watch(" + odd + ", 47)", x.watch(odd, 47), NONE);
            due("watch(0, " + odd + ")", x.watch(0, odd), NONE);
            due("watch(" + odd + ", " + odd + ")", x.watch(odd, odd), NONE);
        }
    }

    static void p19_noStart() {
        HueAndCry x = parishes(2);
        x.exit(0, true);
        due("no start", x.watch(0, 0), NONE);
        x.begin(0);
        due("a start", x.watch(0, 0), 1);
    }

    static void p19_refusedTheRowStays() {
        HueAndCry x = star(6);
        x.exit(3, true);
        x.exit(4, true);
        due("two", x.watch(1, 1), 2);
        due("NONE", x.watch(1, 0), NONE);
        dueRow("the row stays", x, 3, 4);
        x.exit(5, true);
        x.exit(2, true);
        due("not enough", x.watch(1, 1), -3);
        dueRow("the row stays", x, 3, 4);
    }

    static void p19_noneTellsAnEmptyRow() {
        HueAndCry x = land(2, 0, 1, 1);
        x.exit(1, true);
        due("one", x.watch(0, 1), 1);
        dueRow("one", x, 0);
        due("none is wanted", x.watch(0, 0), 0);
        dueRow("an empty row", x);
    }

    static void p19_howMany() {
        for (int exits = 0; exits <= 3; exits++) {
            HueAndCry x = star(5);
            int[] want = new int[exits];
            for (int i = 0; i < exits; i++) {
                want[i] = i + 1;
                x.exit(i + 1, true);
            }
            due(exits + " exits", x.watch(1, 1), exits);
            dueRow(exits + " exits", x, want);
        }
    }

    static void p19_threeAreNotEnough() {
        HueAndCry x = star(5);
        for (int i = 1; i <= 4; i++) {
            x.exit(i, true);
        }
        due("four exits", x.watch(1, 1), -3);
        dueRow("none told", x);
        due("an hour ahead one is enough", x.watch(0, 1), 1);
        due("and the start, watched from 1 on, is not", x.watch(1, 47), -3);
    }

    static void p19_fewerParishesThanThree() {
        HueAndCry one = land(1);
        one.exit(0, true);
        due("one parish", one.watch(0, 47), 1);
        dueRow("one parish", one, 0);
        HueAndCry two = land(2, 0, 1, 1);
        two.exit(0, true);
        two.exit(1, true);
        due("two parishes", two.watch(1, 47), 2);
        dueRow("two parishes", two, 0, 1);
        HueAndCry three = star(3);
        for (int i = 0; i < 3; i++) {
            three.exit(i, true);
        }
        due("three parishes", three.watch(1, 47), 3);
        dueRow("three parishes", three, 0, 1, 2);
    }

    static void p19_atTheExitAtU() {
        HueAndCry x = land(2, 0, 1, 12);
        x.exit(1, true);
        due("an hour ahead", x.watch(0, 11), 0);
        due("then", x.watch(0, 12), 1);
        dueRow("at the start", x, 0);
        due("that hour alone", x.watch(12, 12), 1);
        dueRow("at the exit", x, 1);
    }

    static void p19_atTheExitAheadOfT() {
        HueAndCry x = land(2, 0, 1, 1);
        x.exit(1, true);
        x.seen(1, 4);
        x.seen(0, 5);
        due("at 4", x.watch(4, 4), 1);
        due("at 5", x.watch(5, 5), 0);
        due("at 5 and 6", x.watch(5, 6), 1);
        dueRow("where he was seen", x, 0);
    }

    static void p19_notWatchedAheadOfT() {
        HueAndCry x = land(2, 0, 1, 1);
        x.exit(1, true);
        due("from 0 on the start is enough", x.watch(0, 1), 1);
        dueRow("the start", x, 0);
        due("from 1 on it is not", x.watch(1, 1), 1);
        dueRow("the exit", x, 1);
    }

    static void p19_watchedFromTOn() {
        HueAndCry x = line(3);
        x.exit(2, true);
        x.vain(1, 0);
        due("he passes 1 at 1 or later", x.watch(1, 2), 1);
        dueRow("1, from 1 on", x, 1);
        due("from 2 on he may be behind it", x.watch(2, 2), 1);
        dueRow("the exit", x, 2);
    }

    static void p19_factsUpToT() {
        HueAndCry x = land(2, 0, 1, 3);
        x.exit(1, true);
        x.guarded(0, 2);
        due("of t", x.watch(2, 3), 0);
        due("behind t", x.watch(1, 3), 1);
        dueRow("he may have left at 0", x, 1);
        x.strike(0, true);
        due("struck", x.watch(2, 3), 1);
    }

    static void p19_vainAndSeenUpToT() {
        HueAndCry x = land(2, 0, 1, 1);
        x.exit(1, true);
        x.vain(1, 5);
        due("vain at t", x.watch(5, 5), 0);
        due("vain behind t", x.watch(4, 5), 1);
        dueRow("at the exit", x, 1);
        HueAndCry y = land(2, 0, 1, 1);
        y.exit(1, true);
        y.seen(0, 5);
        due("seen at t", y.watch(5, 5), 0);
        due("seen at t, on to the next", y.watch(5, 6), 1);
        dueRow("where he was seen", y, 0);
        due("seen behind t", y.watch(4, 5), 1);
        dueRow("at the exit", y, 1);
    }

    static void p19_noJourneyAgrees() {
        HueAndCry x = land(1);
        x.exit(0, true);
        x.vain(0, 5);
        due("up to 4 he is there", x.watch(4, 47), 1);
        due("from 5 on nowhere", x.watch(5, 47), 0);
        dueRow("an empty row", x);
    }

    static void p19_firstSuchRow() {
        HueAndCry x = line(5);
        x.exit(4, true);
        due("any of five", x.watch(0, 47), 1);
        dueRow("the least", x, 0);
        due("from 1 on", x.watch(1, 47), 1);
        dueRow("he may have left the start, and is taken at 1", x, 1);
        x.seen(4, 10);
        due("seen at the exit", x.watch(10, 47), 1);
        dueRow("there alone", x, 4);
    }

    static void p19_firstOfTwo() {
        HueAndCry x = land(6, 0, 2, 1, 2, 4, 1, 0, 3, 1, 3, 5, 1);
        x.exit(4, true);
        x.exit(5, true);
        due("two", x.watch(1, 2), 2);
        dueRow("(2, 3) ahead of (2, 5), (3, 4), (4, 5)", x, 2, 3);
        x.seen(2, 1);
        due("one", x.watch(1, 2), 1);
        dueRow("2 ahead of 4", x, 2);
    }

    static void p19_lastRowsOfAll() {
        HueAndCry x = star(24);
        x.exit(23, true);
        due("one", x.watch(1, 1), 1);
        dueRow("one", x, 23);
        x.exit(22, true);
        due("two", x.watch(1, 1), 2);
        dueRow("two", x, 22, 23);
        x.exit(21, true);
        due("three", x.watch(1, 1), 3);
        dueRow("three", x, 21, 22, 23);
        x.exit(20, true);
        due("not enough", x.watch(1, 1), -3);
    }

    static void p19_theExitThatIsWatched() {
        HueAndCry x = land(3, 0, 1, 1, 0, 2, 2);
        x.exit(0, true);
        due("he is at an exit from the start on", x.watch(0, 47), 1);
        dueRow("and taken", x, 0);
        x.exit(1, true);
        x.exit(2, true);
        due("so he gets to no other", x.watch(0, 47), 1);
        dueRow("and taken", x, 0);
    }

    static void p19_shutRoads() {
        HueAndCry x = land(2, 0, 1, 1);
        x.exit(1, true);
        x.shut(0, true);
        due("shut", x.watch(0, 47), 0);
        x.shut(0, false);
        due("open", x.watch(0, 47), 1);
    }

    static void p19_noExit() {
        HueAndCry x = star(24);
        due("no exit", x.watch(0, 47), 0);
        dueRow("no exit", x);
    }

    static void p19_eachRowOfTwo() {
        for (int a = 1; a < 23; a++) {
            for (int b = a + 1; b < 24; b++) {
                HueAndCry x = star(24);
                x.exit(b, true);
                x.exit(a, true);
                due("exits " + a + ", " + b, x.watch(1, 1), 2);
                dueRow("exits " + a + ", " + b, x, a, b);
            }
        }
    }

    static void p19_eachRowOfThree() {
        for (int a = 1; a < 22; a++) {
            for (int b = a + 1; b < 23; b++) {
                for (int c = b + 1; c < 24; c++) {
                    HueAndCry x = star(24);
                    x.exit(c, true);
                    x.exit(a, true);
                    x.exit(b, true);
                    due("exits " + a + ", " + b + ", " + c, x.watch(1, 1), 3);
                    dueRow("exits " + a + ", " + b + ", " + c, x, a, b, c);
                }
            }
        }
    }

    static void p19_whereAllMustPass() {
        HueAndCry x = land(6, 0, 1, 1, 0, 2, 3, 1, 2, 3, 2, 3, 1, 3, 4, 1, 3, 5, 1);
        x.exit(4, true);
        x.exit(5, true);
        due("one", x.watch(1, 47), 1);
        dueRow("behind both of the first, ahead of both exits", x, 2);
        due("he may be there by 3", x.watch(3, 47), 1);
        dueRow("and is taken", x, 2);
        due("he may be behind it by 4", x.watch(4, 47), 1);
        dueRow("at the next", x, 3);
        due("at an exit by 5", x.watch(5, 47), 2);
        dueRow("both", x, 4, 5);
    }
}
