/** Boundary cases of promises 20 to 25: descriptions. */
public final class DescriptionBoundsTest extends Bounds {
    public static void main(String[] args) {
        runAll(DescriptionBoundsTest.class, 20, 25);
    }

    /** One parish and a person with six numbers. */
    private static HueAndCry person(int a, int b, int c, int d, int e, int f) {
        HueAndCry x = land(1);
        x.person(0, five(a, b, c), five(d, e, f));
        return x;
    }

    // ---- promise 20: trait

    static void p20_firstTrait() {
        HueAndCry x = person(9, 9, 9, 9, 9, 9);
        due("trait(-1, 0, 0)", x.trait(-1, 0, 0), false);
        due("none has a value", x.fits(0), 0);
        due("trait(0, 0, 0)", x.trait(0, 0, 0), true);
        due("trait 0 has", x.fits(0), 1);
    }

    static void p20_lastTrait() {
        HueAndCry x = person(9, 9, 9, 9, 9, 9);
        due("trait(6, 0, 0)", x.trait(6, 0, 0), false);
        due("none has a value", x.fits(0), 0);
        due("trait(5, 0, 0)", x.trait(5, 0, 0), true);
        due("trait 5 has", x.fits(0), 6);
    }

    static void p20_lowestValue() {
        HueAndCry x = person(0, 9, 9, 9, 9, 9);
        x.trait(0, 5, 0);
        due("trait(0, -2, 0)", x.trait(0, -2, 0), false);
        due("the value stays", x.fits(0), 1);
        due("trait(0, 0, 0)", x.trait(0, 0, 0), true);
        due("the value is 0", x.fits(0), 0);
        due("it is one", x.telling(1), 1);
    }

    static void p20_noValue() {
        HueAndCry x = person(0, 9, 9, 9, 9, 9);
        x.trait(0, 5, 0);
        due("it has one", x.fits(0), 1);
        due("trait(0, NONE, 0)", x.trait(0, NONE, 0), true);
        due("it has none", x.fits(0), 0);
        due("none is told on", x.telling(1), 0);
        due("again", x.trait(0, NONE, 0), true);
        due("it has none", x.fits(0), 0);
    }

    static void p20_highestValue() {
        HueAndCry x = person(31, 9, 9, 9, 9, 9);
        x.trait(0, 5, 0);
        due("trait(0, 32, 0)", x.trait(0, 32, 0), false);
        due("the value stays", x.fits(0), 1);
        due("trait(0, 31, 0)", x.trait(0, 31, 0), true);
        due("the value is 31", x.fits(0), 0);
    }

    static void p20_lowestBlur() {
        HueAndCry x = person(9, 9, 9, 9, 9, 9);
        due("trait(0, 10, -1)", x.trait(0, 10, -1), false);
        due("none has a value", x.fits(0), 0);
        due("trait(0, 10, 0)", x.trait(0, 10, 0), true);
        due("one off", x.fits(0), 1);
        due("its blur", x.telling(0), 0);
    }

    static void p20_highestBlur() {
        HueAndCry x = person(0, 9, 9, 9, 9, 9);
        due("trait(0, 31, 32)", x.trait(0, 31, 32), false);
        due("none has a value", x.telling(0), 0);
        due("trait(0, 31, 31)", x.trait(0, 31, 31), true);
        due("its blur", x.telling(0), 31);
        due("31 off", x.fits(0), 0);
        due("trait(0, 31, 30)", x.trait(0, 31, 30), true);
        due("31 off, with a blur of 30", x.fits(0), 1);
    }

    static void p20_refusedValueAndBlurStay() {
        HueAndCry x = person(9, 9, 9, 9, 9, 9);
        x.trait(3, 11, 2);
        int[][] bad = {{3, 32, 0}, {3, -2, 0}, {3, 11, -1}, {3, 11, 32}, {3, 9, 32}, {3, 9, -1}, {3, 32, 32}, {6, 0, 0}, {-1, 0, 0}};
        for (int[] b : bad) {
            due("trait(" + b[0] + ", " + b[1] + ", " + b[2] + ")", x.trait(b[0], b[1], b[2]), false);
            due("the blur", x.telling(0), 2);
            due("the value", x.fits(0), 0);
        }
        x.trait(3, 11, 1);
        due("the value was 11", x.fits(0), 4);
    }

    static void p20_farOff() {
        HueAndCry x = person(9, 9, 9, 9, 9, 9);
        for (int odd : FAR_OFF) {
            due("trait(" + odd + ", 0, 0)", x.trait(odd, 0, 0), false);
            due("trait(0, " + odd + ", 0)", x.trait(0, odd, 0), false);
            due("trait(0, 0, " + odd + ")", x.trait(0, 0, odd), false);
        }
        due("none has a value", x.fits(0), 0);
    }

    static void p20_eachTraitOfItsOwn() {
        for (int trait = 0; trait < 6; trait++) {
            HueAndCry x = person(9, 9, 9, 9, 9, 9);
            x.trait(trait, 8, 0);
            due("trait " + trait, x.fits(0), 1 + trait);
            due("no other has a blur", x.telling(31), 31);
        }
    }

    // ---- promise 21: telling

    static void p21_lowestN() {
        HueAndCry x = land(1);
        x.trait(0, 5, 3);
        due("telling(-1)", x.telling(-1), NONE);
        due("telling(0)", x.telling(0), 3);
        due("and again", x.telling(0), 3);
    }

    static void p21_highestN() {
        HueAndCry x = land(1);
        x.trait(0, 5, 0);
        due("telling(32)", x.telling(32), NONE);
        due("the blur stays", x.telling(0), 0);
        due("telling(31)", x.telling(31), 31);
    }

    static void p21_farOff() {
        HueAndCry x = land(1);
        x.trait(0, 5, 3);
        for (int odd : FAR_OFF) {
            due("telling(" + odd + ")", x.telling(odd), NONE);
        }
        due("the blur stays", x.telling(0), 3);
    }

    static void p21_atMost31() {
        HueAndCry x = land(1);
        x.trait(0, 5, 29);
        due("30", x.telling(1), 30);
        due("31", x.telling(1), 31);
        due("no more", x.telling(1), 31);
        due("no more by far", x.telling(31), 31);
        x.trait(0, 5, 30);
        due("30 and 2", x.telling(2), 31);
    }

    static void p21_noTraitHasAValue() {
        HueAndCry x = land(1);
        due("none", x.telling(31), 0);
        x.trait(0, 5, 0);
        due("nothing was told on ahead of the value", x.telling(0), 0);
    }

    static void p21_withoutAValueNoBlur() {
        HueAndCry x = land(1);
        x.trait(0, 5, 4);
        x.trait(1, NONE, 9);
        due("of the one alone", x.telling(1), 5);
        x.trait(0, NONE, 0);
        due("of none", x.telling(1), 0);
    }

    static void p21_allTraits() {
        HueAndCry x = land(1);
        for (int trait = 0; trait < 6; trait++) {
            x.trait(trait, 0, trait);
        }
        due("the sum", x.telling(0), 15);
        due("one more each", x.telling(1), 21);
        due("31 for one", x.telling(25), 171);
        due("31 for each", x.telling(31), 186);
    }

    static void p21_itBlursWhomItFits() {
        HueAndCry x = person(9, 9, 9, 9, 9, 9);
        x.trait(0, 12, 0);
        x.telling(2);
        due("3 off, a blur of 2", x.fits(0), 1);
        x.telling(1);
        due("3 off, a blur of 3", x.fits(0), 0);
    }

    // ---- promise 22: person

    static void p22_firstParish() {
        HueAndCry x = land(2);
        due("person(-1, 0, 0)", x.person(-1, 0, 0), NONE);
        due("none was kept", x.count(4), 0);
        due("person(0, 0, 0)", x.person(0, 0, 0), 0);
    }

    static void p22_lastParish() {
        HueAndCry x = land(2);
        due("person(2, 0, 0)", x.person(2, 0, 0), NONE);
        due("none was kept", x.count(4), 0);
        due("person(1, 0, 0)", x.person(1, 0, 0), 0);
        HueAndCry full = parishes(24);
        due("person(24, 0, 0)", full.person(24, 0, 0), NONE);
        due("person(23, 0, 0)", full.person(23, 0, 0), 0);
        full.begin(23);
        due("of that parish", full.suspects(0), 1);
    }

    static void p22_lowestA() {
        HueAndCry x = land(1);
        due("person(0, -1, 0)", x.person(0, -1, 0), NONE);
        due("none was kept", x.count(4), 0);
        due("person(0, 0, 5)", x.person(0, 0, 5), 0);
        for (int trait = 0; trait < 3; trait++) {
            x.trait(trait, 0, 0);
        }
        due("all 0", x.fits(0), 0);
    }

    static void p22_highestA() {
        HueAndCry x = land(1);
        due("person(0, 32768, 0)", x.person(0, 32768, 0), NONE);
        due("none was kept", x.count(4), 0);
        due("person(0, 32767, 5)", x.person(0, 32767, 5), 0);
        for (int trait = 0; trait < 3; trait++) {
            x.trait(trait, 31, 0);
        }
        due("all 31", x.fits(0), 0);
    }

    static void p22_lowestB() {
        HueAndCry x = land(1);
        due("person(0, 0, -1)", x.person(0, 0, -1), NONE);
        due("none was kept", x.count(4), 0);
        due("person(0, 5, 0)", x.person(0, 5, 0), 0);
        for (int trait = 3; trait < 6; trait++) {
            x.trait(trait, 0, 0);
        }
        due("all 0", x.fits(0), 0);
    }

    static void p22_highestB() {
        HueAndCry x = land(1);
        due("person(0, 0, 32768)", x.person(0, 0, 32768), NONE);
        due("none was kept", x.count(4), 0);
        due("person(0, 5, 32767)", x.person(0, 5, 32767), 0);
        for (int trait = 3; trait < 6; trait++) {
            x.trait(trait, 31, 0);
        }
        due("all 31", x.fits(0), 0);
    }

    static void p22_farOff() {
        HueAndCry x = land(1);
        for (int odd : FAR_OFF) {
            due("person(" + odd + ", 0, 0)", x.person(odd, 0, 0), NONE);
            if (odd < 0 || odd > 32767) {
                due("person(0, " + odd + ", 0)", x.person(0, odd, 0), NONE);
                due("person(0, 0, " + odd + ")", x.person(0, 0, odd), NONE);
            }
        }
        due("none was kept", x.count(4), 0);
        due("the next has no gap ahead", x.person(0, 0, 0), 0);
    }

    static void p22_all30() {
        HueAndCry x = land(1);
        for (int i = 0; i < 30; i++) {
            due("person " + i, x.person(0, i, i), i);
        }
        due("count", x.count(4), 30);
        due("the 30th is one", x.fits(29), 0);
    }

    static void p22_the31st() {
        HueAndCry x = land(1);
        for (int i = 0; i < 30; i++) {
            x.person(0, 32767, 32767);
        }
        due("the 31st", x.person(0, 0, 0), NONE);
        due("count", x.count(4), 30);
        due("there is no person 30", x.fits(30), NONE);
        x.trait(0, 0, 0);
        due("none has the number 0", x.many(NONE), 0);
    }

    static void p22_placesOfTheNumbers() {
        for (int trait = 0; trait < 6; trait++) {
            int a = trait < 3 ? 31 << 5 * (2 - trait) : 0;
            int b = trait < 3 ? 0 : 31 << 5 * (5 - trait);
            HueAndCry x = land(1);
            x.person(0, a, b);
            for (int other = 0; other < 6; other++) {
                x.trait(other, other == trait ? 31 : 0, 0);
            }
            due("31 for trait " + trait + " alone", x.fits(0), 0);
        }
    }

    static void p22_lowestAndHighestBitOfANumber() {
        HueAndCry x = person(16, 1, 16, 1, 16, 1);
        for (int trait = 0; trait < 6; trait++) {
            x.trait(trait, trait % 2 == 0 ? 16 : 1, 0);
        }
        due("each as it was told", x.fits(0), 0);
    }

    // ---- promise 23: fits

    static void p23_firstPerson() {
        HueAndCry x = person(1, 2, 3, 4, 5, 6);
        due("fits(-1)", x.fits(-1), NONE);
        due("fits(0)", x.fits(0), 0);
    }

    static void p23_lastPerson() {
        HueAndCry x = person(1, 2, 3, 4, 5, 6);
        due("fits(1)", x.fits(1), NONE);
        x.person(0, 0, 0);
        x.trait(0, 1, 0);
        due("fits(1)", x.fits(1), 1);
        due("fits(0)", x.fits(0), 0);
        due("fits(2)", x.fits(2), NONE);
    }

    static void p23_farOff() {
        HueAndCry x = person(1, 2, 3, 4, 5, 6);
        for (int odd : FAR_OFF) {
            due("fits(" + odd + ")", x.fits(odd), NONE);
        }
    }

    static void p23_blurAbove() {
        HueAndCry x = person(20, 0, 0, 0, 0, 0);
        x.trait(0, 15, 5);
        due("5 above", x.fits(0), 0);
        x.trait(0, 14, 5);
        due("6 above", x.fits(0), 1);
    }

    static void p23_blurBelow() {
        HueAndCry x = person(20, 0, 0, 0, 0, 0);
        x.trait(0, 25, 5);
        due("5 below", x.fits(0), 0);
        x.trait(0, 26, 5);
        due("6 below", x.fits(0), 1);
    }

    static void p23_lessOffThanTheBlur() {
        HueAndCry x = person(20, 0, 0, 0, 0, 0);
        for (int value = 15; value <= 25; value++) {
            x.trait(0, value, 5);
            due("value " + value + ", blur 5", x.fits(0), 0);
        }
    }

    static void p23_noBlur() {
        HueAndCry x = person(20, 0, 0, 0, 0, 0);
        x.trait(0, 20, 0);
        due("0 off", x.fits(0), 0);
        x.trait(0, 19, 0);
        due("1 above", x.fits(0), 1);
        x.trait(0, 21, 0);
        due("1 below", x.fits(0), 1);
    }

    static void p23_numbersDoNotWrap() {
        HueAndCry x = person(31, 0, 0, 0, 0, 0);
        x.trait(0, 0, 30);
        due("31 is 31 off 0", x.fits(0), 1);
        x.trait(0, 0, 31);
        due("with a blur of 31", x.fits(0), 0);
        HueAndCry y = person(0, 0, 0, 0, 0, 0);
        y.trait(0, 31, 1);
        due("0 is 31 off 31", y.fits(0), 1);
    }

    static void p23_firstThatDoesNot() {
        HueAndCry x = person(9, 9, 9, 9, 9, 9);
        for (int trait = 5; trait >= 0; trait--) {
            x.trait(trait, 0, 0);
            due("the first of several", x.fits(0), 1 + trait);
        }
        for (int trait = 0; trait < 5; trait++) {
            x.trait(trait, 9, 0);
            due("the first that is left", x.fits(0), 2 + trait);
        }
        x.trait(5, 9, 0);
        due("none is left", x.fits(0), 0);
    }

    static void p23_noDescription() {
        HueAndCry x = person(31, 0, 31, 0, 31, 0);
        due("no trait has a value", x.fits(0), 0);
    }

    // ---- promise 24: many

    static void p24_lowestCounty() {
        HueAndCry x = new HueAndCry();
        x.parish(0);
        x.parish(1);
        x.person(0, 0, 0);
        x.person(1, 0, 0);
        x.person(1, 0, 0);
        due("many(-2)", x.many(-2), -2);
        due("many(NONE)", x.many(NONE), 3);
        due("many(0)", x.many(0), 1);
    }

    static void p24_highestCounty() {
        HueAndCry x = new HueAndCry();
        x.parish(4);
        x.parish(5);
        x.person(0, 0, 0);
        x.person(1, 0, 0);
        x.person(1, 0, 0);
        due("many(6)", x.many(6), -2);
        due("many(5)", x.many(5), 2);
        due("many(4)", x.many(4), 1);
    }

    static void p24_farOff() {
        HueAndCry x = land(1);
        for (int odd : FAR_OFF) {
            due("many(" + odd + ")", x.many(odd), -2);
        }
    }

    static void p24_none() {
        HueAndCry x = new HueAndCry();
        for (int county = -1; county < 6; county++) {
            due("no parish, no person: " + county, x.many(county), 0);
        }
        x.parish(2);
        due("no person", x.many(2), 0);
        x.person(0, five(9, 0, 0), 0);
        due("one", x.many(2), 1);
        x.trait(0, 8, 0);
        due("none that fits", x.many(2), 0);
        due("none at all", x.many(NONE), 0);
    }

    static void p24_all() {
        HueAndCry x = new HueAndCry();
        for (int i = 0; i < 24; i++) {
            x.parish(i % 6);
        }
        for (int i = 0; i < 30; i++) {
            x.person(i % 24, 0, 0);
        }
        due("all", x.many(NONE), 30);
        for (int county = 0; county < 6; county++) {
            due("county " + county, x.many(county), 5);
        }
    }

    static void p24_lastParishOfAll() {
        HueAndCry x = new HueAndCry();
        for (int i = 0; i < 24; i++) {
            x.parish(i < 23 ? 0 : 5);
        }
        x.person(23, 0, 0);
        due("county 5", x.many(5), 1);
        due("county 0", x.many(0), 0);
    }

    static void p24_withoutStart() {
        HueAndCry x = parishes(1);
        x.person(0, 0, 0);
        due("no start is wanted", x.many(0), 1);
    }

    // ---- promise 25: suspects

    static void p25_firstHour() {
        HueAndCry x = land(2, 0, 1, 1);
        x.person(0, 0, 0);
        x.person(1, 0, 0);
        due("suspects(-1)", x.suspects(-1), NONE);
        due("suspects(0)", x.suspects(0), 1);
    }

    static void p25_lastHour() {
        HueAndCry x = land(2, 0, 1, 1);
        x.person(0, 0, 0);
        x.person(1, 0, 0);
        due("suspects(48)", x.suspects(48), NONE);
        due("suspects(47)", x.suspects(47), 2);
    }

    static void p25_farOff() {
        HueAndCry x = land(1);
        for (int odd : FAR_OFF) {
            due("suspects(" + odd + ")", x.suspects(odd), NONE);
        }
    }

    static void p25_noStart() {
        HueAndCry x = parishes(1);
        x.person(0, 0, 0);
        due("no start", x.suspects(0), NONE);
        x.begin(0);
        due("a start", x.suspects(0), 1);
    }

    static void p25_none() {
        HueAndCry x = land(1);
        due("no person", x.suspects(0), 0);
        x.person(0, 0, 0);
        due("one", x.suspects(0), 1);
        x.trait(0, 1, 0);
        due("that does not fit", x.suspects(0), 0);
        x.trait(0, 1, 1);
        due("that fits", x.suspects(0), 1);
        x.vain(0, 5);
        due("ahead of the fact", x.suspects(4), 1);
        due("he may be nowhere", x.suspects(5), 0);
    }

    static void p25_all() {
        HueAndCry x = land(24);
        for (int i = 1; i < 24; i++) {
            x.road(0, i, 1);
        }
        for (int i = 0; i < 30; i++) {
            x.person(i % 24, 0, 0);
        }
        due("at the start", x.suspects(0), 2);
        due("everywhere", x.suspects(1), 30);
    }

    static void p25_justInTime() {
        HueAndCry x = land(2, 0, 1, 12);
        x.person(1, 0, 0);
        due("at 11", x.suspects(11), 0);
        due("at 12", x.suspects(12), 1);
        x.seen(0, 12);
        due("seen elsewhere at 12", x.suspects(12), 0);
        x.seen(1, 47);
        due("not found then, later facts don't matter", x.suspects(24), 1);
    }

    static void p25_factsBehindThatHour() {
        HueAndCry x = land(2, 0, 1, 2);
        x.person(1, 0, 0);
        x.seen(0, 3);
        due("he has not been there at 2", x.was(1, 2), 0);
        due("yet he may be", x.suspects(2), 1);
        due("at 3 he may not", x.suspects(3), 0);
    }
}
