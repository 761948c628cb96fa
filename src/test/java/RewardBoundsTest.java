import java.util.NoSuchElementException;

/** Boundary cases of promises 26 to 34: acts, rewards, the row. */
public final class RewardBoundsTest extends Bounds {
    /** Nine asks, 35 signs. */
    private static final String NINE = "n=1&n=1&n=1&n=1&n=1&n=1&n=1&n=1&n=1";
    /** Nine asks, 36 signs. */
    private static final String NINE_AND_A_DIGIT = "n=11&" + NINE.substring(4);

    public static void main(String[] args) {
        runAll(RewardBoundsTest.class, 26, 34);
    }

    private static HueAndCry claims(int n) {
        HueAndCry x = land(1);
        for (int i = 0; i < n; i++) {
            x.claim(0, 0);
        }
        return x;
    }

    private static HueAndCry acts(int n) {
        HueAndCry x = land(1);
        for (int i = 0; i < n; i++) {
            enact(x, "n=0:1");
        }
        return x;
    }

    /** What act() says of a text, on an object of its own. */
    private static int verdict(String text) {
        return enact(new HueAndCry(), text);
    }

    // ---- promise 26: sign

    static void p26_fourByFour() {
        HueAndCry x = new HueAndCry();
        for (int i = 1; i <= 25; i++) {
            due("sign " + i, x.sign(i), 4 * i);
            due("count(8)", x.count(8), 4 * i);
        }
    }

    static void p26_moreThan100() {
        HueAndCry x = new HueAndCry();
        for (int i = 0; i < 25; i++) {
            x.sign(0);
        }
        due("the 26th", x.sign(0), NONE);
        due("count(8)", x.count(8), 100);
    }

    static void p26_justFull() {
        HueAndCry x = new HueAndCry();
        for (int i = 0; i < 25; i++) {
            x.sign(0);
        }
        for (int n = 99; n >= 97; n--) {
            x.end(n);
            due(n + " and 4", x.sign(0), NONE);
            due("count(8)", x.count(8), n);
        }
        x.end(96);
        due("96 and 4", x.sign(0), 100);
        x.end(95);
        due("95 and 4", x.sign(0), 99);
    }

    static void p26_refusedTheTapeStays() {
        HueAndCry x = claims(2);
        put(x, "n=1:42");
        for (int i = 0; i < 23; i++) {
            x.sign(0x32323232);
        }
        due("98 signs", x.count(8), 98);
        due("refused", x.sign(0x78787878), NONE);
        x.end(6);
        due("the act stands on it", x.act(), 0);
        due("its weight", x.weight(1), 42);
    }

    static void p26_highestByteFirst() {
        HueAndCry x = claims(2);
        x.sign('n' << 24 | '=' << 16 | '1' << 8 | ':');
        x.sign('3' << 24 | '5' << 16 | '7' << 8);
        x.end(7);
        due("in their order", x.act(), 0);
        due("weight", x.weight(1), 357);
    }

    static void p26_behindTheTape() {
        HueAndCry x = claims(2);
        x.sign('n' << 24 | 'x' << 16 | 'x' << 8 | 'x');
        x.end(1);
        due("behind one sign", x.sign('=' << 24 | '1' << 16 | ':' << 8 | '6'), 5);
        due("act", x.act(), 0);
        due("weight", x.weight(1), 6);
    }

    static void p26_allBytes() {
        HueAndCry x = new HueAndCry();
        due("all bits", x.sign(-1), 4);
        due("the lowest int", x.sign(LOW), 8);
        due("the highest int", x.sign(HIGH), 12);
        due("none", x.sign(0), 16);
    }

    static void p26_signsOfEightBits() {
        // A sign is no less than its eight bits: 238 is not n.
        due("n", verdict("n"), -2);
        due("n and 128", verdict(String.valueOf((char) ('n' + 128))), -1);
        due("255", verdict(String.valueOf((char) 255)), -1);
        due("0", verdict(String.valueOf((char) 0)), -1);
    }

    // ---- promise 27: end

    static void p27_none() {
        HueAndCry x = new HueAndCry();
        due("end(0) of an empty tape", x.end(0), true);
        due("end(1) of an empty tape", x.end(1), false);
        due("end(-1) of an empty tape", x.end(-1), false);
        due("count(8)", x.count(8), 0);
    }

    static void p27_below0() {
        HueAndCry x = new HueAndCry();
        x.sign(0);
        due("end(-1)", x.end(-1), false);
        due("count(8)", x.count(8), 4);
        due("end(0)", x.end(0), true);
        due("count(8)", x.count(8), 0);
    }

    static void p27_notSoMany() {
        HueAndCry x = new HueAndCry();
        x.sign(0);
        due("end(5)", x.end(5), false);
        due("count(8)", x.count(8), 4);
        due("end(4)", x.end(4), true);
        due("count(8)", x.count(8), 4);
        due("end(3)", x.end(3), true);
        due("count(8)", x.count(8), 3);
        due("end(4)", x.end(4), false);
        due("count(8)", x.count(8), 3);
    }

    static void p27_full() {
        HueAndCry x = new HueAndCry();
        for (int i = 0; i < 25; i++) {
            x.sign(0);
        }
        due("end(101)", x.end(101), false);
        due("end(100)", x.end(100), true);
        due("count(8)", x.count(8), 100);
        due("end(99)", x.end(99), true);
        due("end(100)", x.end(100), false);
        due("count(8)", x.count(8), 99);
    }

    static void p27_farOff() {
        HueAndCry x = new HueAndCry();
        x.sign(0);
        for (int odd : FAR_OFF) {
            due("end(" + odd + ")", x.end(odd), false);
        }
        due("count(8)", x.count(8), 4);
    }

    static void p27_theFirstStay() {
        HueAndCry x = claims(2);
        put(x, "n=1:789");
        x.end(6);
        due("act", x.act(), 0);
        due("the first six", x.weight(1), 78);
    }

    // ---- promise 28: act

    static void p28_allEight() {
        HueAndCry x = new HueAndCry();
        for (int i = 0; i < 8; i++) {
            due("act " + i, enact(x, "n=0:1"), i);
        }
        due("count(5)", x.count(5), 8);
    }

    static void p28_theNinth() {
        HueAndCry x = acts(8);
        due("the ninth", enact(x, "n=0:1"), -100);
        due("count(5)", x.count(5), 8);
    }

    static void p28_askedFirst() {
        HueAndCry x = acts(8);
        due("an empty tape", x.act(), -100);
        due("one that is none", enact(x, "x"), -100);
        due("one that ends too early", enact(acts(8), "n=0"), -100);
        due("one that is too long", enact(acts(8), NINE + "&" + NINE), -100);
        due("seven have room for another", enact(acts(7), "x"), -1);
    }

    static void p28_refusedTheActsStay() {
        HueAndCry x = claims(3);
        enact(x, "n=1:5");
        due("none", enact(x, "n=2:9x"), -6);
        due("count(5)", x.count(5), 1);
        due("weight(1)", x.weight(1), 5);
        due("weight(2)", x.weight(2), 0);
        due("the next number", enact(x, "n=2:7"), 1);
        due("weight(2)", x.weight(2), 7);
        for (int i = 2; i < 8; i++) {
            enact(x, "n=0:3");
        }
        due("full", enact(x, "n=0:8"), -100);
        due("weight(0)", x.weight(0), 3);
        due("weight(1)", x.weight(1), 5);
    }

    static void p28_aReadActLeavesNothingBehind() {
        HueAndCry x = claims(3);
        due("asks that come to nothing", enact(x, "n=2&h=7&c=5:12x"), -15);
        due("a shorter one", enact(x, "n=1:4"), 0);
        due("weight(1)", x.weight(1), 4);
        due("weight(2)", x.weight(2), 0);
    }

    static void p28_digitsAreCountedAnew() {
        HueAndCry x = claims(3);
        due("three digits of a weight, and one too much", enact(x, "n=1:1234"), -8);
        due("three digits of a number", enact(x, "n=002:123"), 0);
        due("weight(2)", x.weight(2), 123);
        due("three digits of a number, and one too much", enact(x, "n=1234:1"), -6);
        due("three digits of both numbers", enact(x, "n=001&h=000:321"), 1);
        due("weight(1)", x.weight(1), 321);
        x.repeal();
        due("behind a repeal", enact(x, "n=001:987"), 0);
        due("weight(1)", x.weight(1), 987);
        due("weight(2)", x.weight(2), 0);
    }

    static void p28_theTapeIsEmptyThen() {
        HueAndCry x = new HueAndCry();
        due("an act", enact(x, "n=0:1"), 0);
        due("count(8)", x.count(8), 0);
        due("none", enact(x, "n=0:1x"), -6);
        due("count(8)", x.count(8), 0);
        due("too early", enact(x, "n=0"), -4);
        due("count(8)", x.count(8), 0);
        due("too long", enact(x, NINE + "&" + NINE), -41);
        due("count(8)", x.count(8), 0);
    }

    static void p28_emptyTape() {
        due("an empty tape ends too early", new HueAndCry().act(), -1);
    }

    static void p28_tooEarly() {
        String text = "n<123&h>45&c=6:";
        for (int n = 0; n <= text.length(); n++) {
            due("'" + text.substring(0, n) + "'", verdict(text.substring(0, n)), -1 - n);
        }
    }

    /** Behind each beginning, each of the 256 signs: those that are named can stand there, no other. */
    private static void dueSigns(String beginning, String can, boolean ends) {
        for (int sign = 0; sign < 256; sign++) {
            String text = beginning + (char) sign;
            int want = can.indexOf(sign) < 0 ? -1 - beginning.length() : ends ? 0 : -1 - text.length();
            due("'" + beginning + "' and sign " + sign, verdict(text), want);
        }
    }

    static void p28_signsAtALetter() {
        dueSigns("", "nhc", false);
        dueSigns("n<1&", "nhc", false);
        dueSigns("c=999&h>0&", "nhc", false);
    }

    static void p28_signsAtAComparison() {
        dueSigns("n", "<>=", false);
        dueSigns("h", "<>=", false);
        dueSigns("c", "<>=", false);
        dueSigns("n<1&c", "<>=", false);
    }

    static void p28_signsAtANumber() {
        dueSigns("n<", "0123456789", false);
        dueSigns("h=", "0123456789", false);
        dueSigns("c>", "0123456789", false);
        dueSigns("n<1", "0123456789&:", false);
        dueSigns("n<12", "0123456789&:", false);
        dueSigns("n<1&h>12", "0123456789&:", false);
    }

    static void p28_numberOfThreeDigits() {
        dueSigns("n<123", "&:", false);
        dueSigns("n<000", "&:", false);
        dueSigns("n<1&h>123", "&:", false);
    }

    static void p28_signsAtAWeight() {
        dueSigns("n<1:", "0123456789", true);
        dueSigns("n<1:1", "0123456789", true);
        dueSigns("n<1:12", "0123456789", true);
        dueSigns("n<123&h=1:12", "0123456789", true);
    }

    static void p28_weightOfThreeDigits() {
        dueSigns("n<1:123", "", false);
        dueSigns("n<1:000", "", false);
    }

    static void p28_digitsOfNumberAndWeight() {
        due("one each", verdict("n=0:0"), 0);
        due("three each", verdict("n=999:999"), 0);
        due("no number", verdict("n=:1"), -3);
        due("no weight", verdict("n=1:"), -5);
        due("four of the number", verdict("n=0001:1"), -6);
        due("four of the weight", verdict("n=1:0001"), -8);
        due("noughts ahead", verdict("n=001:001"), 0);
    }

    static void p28_fortySigns() {
        String text = NINE_AND_A_DIGIT + ":123";
        due("40 signs", text.length(), 40);
        due("an act of 40 signs", verdict(text), 0);
        String less = NINE + ":123";
        due("39 signs", less.length(), 39);
        due("an act of 39 signs", verdict(less), 0);
    }

    static void p28_fortySignsTooEarly() {
        due("an ask, a number to go on", verdict(NINE + "&n=12"), -41);
        due("behind a colon", verdict(NINE + "&n=1:"), -41);
        due("behind an &", verdict(NINE + "&n=1&"), -41);
    }

    static void p28_fortyOneSigns() {
        String full = NINE_AND_A_DIGIT + ":123";
        due("the first 40 could end", verdict(full + "4"), -41);
        due("the first 40 could end, x", verdict(full + "x"), -41);
        String open = NINE + "01:12";
        due("40 signs", open.length(), 40);
        due("the first 40 could go on or end", verdict(open + "3"), -41);
        due("the first 40 could go on", verdict(NINE + "&n=1:2"), -41);
        due("the first 40 could go on, x", verdict(NINE + "&n=1:x"), -41);
        due("the first 40 could go on, &", verdict(NINE + "&n=1&n"), -41);
    }

    static void p28_moreThanFortyWithAFaultAhead() {
        due("place 39", verdict(NINE + "&n=1x5"), -40);
        due("place 39, and 100 signs", verdict(NINE + "&n=1x" + NINE + NINE.substring(0, 25)), -40);
        due("place 0", verdict("x" + NINE + "&n=1:2"), -1);
        due("place 4", verdict("n=1:x" + NINE + NINE), -5);
        due("place 39, a weight of four digits", verdict(NINE + ":12345"), -40);
    }

    static void p28_aHundredSigns() {
        String hundred = NINE + "&" + NINE + "&" + NINE.substring(0, 28);
        due("100 signs", hundred.length(), 100);
        due("the first 40 could go on", verdict(hundred), -41);
    }

    static void p28_tenAsks() {
        due("nine asks and a weight", verdict(NINE + ":1"), 0);
        due("ten asks have 39 signs", verdict(NINE + "&n=1"), -40);
        due("with a colon 40", verdict(NINE + "&n=1:"), -41);
    }

    static void p28_fullAfterRepeal() {
        HueAndCry x = acts(8);
        x.repeal();
        for (int i = 0; i < 8; i++) {
            due("act " + i, enact(x, "n=0:1"), i);
        }
        due("the ninth", enact(x, "n=0:1"), -100);
    }

    // ---- promise 29: repeal

    static void p29_none() {
        HueAndCry x = new HueAndCry();
        due("none", x.repeal(), 0);
        due("count(5)", x.count(5), 0);
        due("none again", x.repeal(), 0);
    }

    static void p29_allEight() {
        HueAndCry x = acts(8);
        due("eight", x.repeal(), 8);
        due("count(5)", x.count(5), 0);
        due("none are left", x.repeal(), 0);
        due("the next number", enact(x, "n=0:1"), 0);
        due("one", x.repeal(), 1);
    }

    static void p29_noneHolds() {
        HueAndCry x = claims(1);
        enact(x, "n=0:5");
        x.repeal();
        due("weight", x.weight(0), 0);
        due("reward", x.reward(9), 0);
        enact(x, "n=9:7");
        due("the old one is not back", x.weight(0), 0);
    }

    static void p29_claimsTapeAndRowStay() {
        HueAndCry x = claims(2);
        enact(x, "n=0:5");
        x.reward(9);
        put(x, "n=1:3");
        x.repeal();
        due("claims", x.count(6), 2);
        due("the tape", x.count(8), 5);
        dueRow("the row", x, 9, 0);
        due("the tape is an act", x.act(), 0);
        due("weight", x.weight(1), 3);
    }

    // ---- promise 30: claim

    static void p30_firstParish() {
        HueAndCry x = land(2);
        due("claim(-1, 0)", x.claim(-1, 0), NONE);
        due("none was kept", x.count(6), 0);
        due("claim(0, 0)", x.claim(0, 0), 0);
    }

    static void p30_lastParish() {
        HueAndCry x = land(2);
        due("claim(2, 0)", x.claim(2, 0), NONE);
        due("none was kept", x.count(6), 0);
        due("claim(1, 0)", x.claim(1, 0), 0);
        HueAndCry full = parishes(24);
        due("claim(24, 0)", full.claim(24, 0), NONE);
        due("claim(23, 0)", full.claim(23, 0), 0);
    }

    static void p30_firstHour() {
        HueAndCry x = land(1);
        due("claim(0, -1)", x.claim(0, -1), NONE);
        due("none was kept", x.count(6), 0);
        due("claim(0, 0)", x.claim(0, 0), 0);
        enact(x, "h=0:8");
        due("its hour", x.weight(0), 8);
    }

    static void p30_lastHour() {
        HueAndCry x = land(1);
        due("claim(0, 48)", x.claim(0, 48), NONE);
        due("none was kept", x.count(6), 0);
        due("claim(0, 47)", x.claim(0, 47), 0);
        enact(x, "h=47:8");
        due("its hour", x.weight(0), 8);
    }

    static void p30_farOff() {
        HueAndCry x = land(1);
        for (int odd : FAR_OFF) {
            due("claim(" + odd + ", 0)", x.claim(odd, 0), NONE);
            due("claim(0, " + odd + ")", x.claim(0, odd), NONE);
        }
        due("none was kept", x.count(6), 0);
        due("the next has no gap ahead", x.claim(0, 0), 0);
    }

    static void p30_allTwelve() {
        HueAndCry x = land(1);
        for (int i = 0; i < 12; i++) {
            due("claim " + i, x.claim(0, i), i);
        }
        due("count", x.count(6), 12);
        due("the 12th is one", x.weight(11), 0);
    }

    static void p30_theThirteenth() {
        HueAndCry x = claims(12);
        due("the 13th", x.claim(0, 47), NONE);
        due("count", x.count(6), 12);
        due("there is no claim 12", x.weight(12), NONE);
        enact(x, "h=47:8");
        due("no one has any", x.reward(8), 0);
        due("a row of 12", x.count(7), 12);
    }

    static void p30_withoutStart() {
        due("no start is wanted", parishes(1).claim(0, 0), 0);
    }

    // ---- promise 31: weight

    static void p31_firstClaim() {
        HueAndCry x = claims(2);
        enact(x, "n<2:4");
        due("weight(-1)", x.weight(-1), NONE);
        due("weight(0)", x.weight(0), 4);
    }

    static void p31_lastClaim() {
        HueAndCry x = claims(2);
        enact(x, "n<9:4");
        due("weight(2)", x.weight(2), NONE);
        due("weight(1)", x.weight(1), 4);
        HueAndCry full = claims(12);
        enact(full, "n=11:6");
        due("weight(12)", full.weight(12), NONE);
        due("weight(11)", full.weight(11), 6);
        due("weight(10)", full.weight(10), 0);
    }

    static void p31_farOff() {
        HueAndCry x = claims(1);
        for (int odd : FAR_OFF) {
            due("weight(" + odd + ")", x.weight(odd), NONE);
        }
    }

    static void p31_withoutAnAct() {
        HueAndCry x = claims(1);
        due("no act", x.weight(0), 0);
        enact(x, "n=1:9");
        due("none that holds", x.weight(0), 0);
    }

    static void p31_leastAndGreatest() {
        HueAndCry x = claims(2);
        enact(x, "n=0:999");
        enact(x, "n=1:000");
        enact(x, "n=1:5");
        due("999", x.weight(0), 999);
        due("0, though a later act holds, too", x.weight(1), 0);
    }

    static void p31_lessMoreEqualOfTheNumber() {
        HueAndCry x = claims(12);
        enact(x, "n<5:1");
        enact(x, "n=5:2");
        enact(x, "n>10:3");
        due("4", x.weight(4), 1);
        due("5", x.weight(5), 2);
        due("6", x.weight(6), 0);
        due("10", x.weight(10), 0);
        due("11", x.weight(11), 3);
    }

    static void p31_lessMoreEqualOfTheHour() {
        HueAndCry x = land(1);
        for (int hour : new int[] {0, 1, 11, 12, 13, 45, 46, 47}) {
            x.claim(0, hour);
        }
        enact(x, "h<1:1");
        enact(x, "h=12:2");
        enact(x, "h>45&h<47:3");
        enact(x, "h>46:4");
        int[] want = {1, 0, 0, 2, 0, 0, 3, 4};
        for (int i = 0; i < want.length; i++) {
            due("claim " + i, x.weight(i), want[i]);
        }
    }

    static void p31_lessMoreEqualOfTheCounty() {
        HueAndCry x = new HueAndCry();
        for (int county = 0; county < 6; county++) {
            x.parish(5 - county);
            x.claim(county, 9);
        }
        enact(x, "c<1:1");
        enact(x, "c>4:2");
        enact(x, "c=3:3");
        int[] want = {2, 0, 3, 0, 0, 1};
        for (int i = 0; i < want.length; i++) {
            due("county " + (5 - i), x.weight(i), want[i]);
        }
    }

    static void p31_numbersOfOneToThreeDigits() {
        HueAndCry x = claims(12);
        enact(x, "n=007:1");
        enact(x, "n=08:2");
        enact(x, "n=9:3");
        enact(x, "n>999:4");
        enact(x, "n<999&n>010:5");
        due("7", x.weight(7), 1);
        due("8", x.weight(8), 2);
        due("9", x.weight(9), 3);
        due("10", x.weight(10), 0);
        due("11", x.weight(11), 5);
    }

    static void p31_allItsAsks() {
        HueAndCry x = claims(12);
        enact(x, "n<11&n<10&n<9&n<8&n<7&n<6&n<5&n<4:6");
        due("all but the last ask hold for 4", x.weight(4), 0);
        due("all hold for 3", x.weight(3), 6);
        enact(x, "n>5&n>6&n>7:8");
        due("the last does not hold", x.weight(7), 0);
        due("all hold", x.weight(8), 8);
        enact(x, "n>99&n=7:9");
        due("the first does not hold", x.weight(7), 0);
    }

    static void p31_mostAsks() {
        HueAndCry x = claims(3);
        due("nine asks", enact(x, "n<9&n<9&n<9&n<9&n<9&n<9&n<9&n<9&n<2:7"), 0);
        due("the ninth holds", x.weight(1), 7);
        due("the ninth does not", x.weight(2), 0);
    }

    static void p31_theFirstThatHolds() {
        HueAndCry x = claims(3);
        for (int i = 0; i < 7; i++) {
            enact(x, i == 3 ? "n=1:3" : "n=2:" + i);
        }
        enact(x, "n<3:7");
        due("the eighth", x.weight(0), 7);
        due("the fourth", x.weight(1), 3);
        due("the first", x.weight(2), 0);
    }

    // ---- promise 32: reward

    static void p32_leastReward() {
        HueAndCry x = claims(2);
        enact(x, "n<9:1");
        due("reward(0)", x.reward(0), NONE);
        dueRow("none told", x);
        due("reward(1)", x.reward(1), 1);
        dueRow("told", x, 1, 0);
    }

    static void p32_greatestReward() {
        HueAndCry x = claims(2);
        enact(x, "n<9:999");
        due("reward(1000001)", x.reward(1000001), NONE);
        dueRow("none told", x);
        due("reward(1000000)", x.reward(1000000), 1000000);
        dueRow("told", x, 500000, 500000);
    }

    static void p32_farOff() {
        HueAndCry x = claims(1);
        enact(x, "n=0:1");
        for (int odd : new int[] {LOW, LOW + 1, -1000000, -1, HIGH - 1, HIGH, 1000001, 1 << 30}) {
            due("reward(" + odd + ")", x.reward(odd), NONE);
        }
        dueRow("none told", x);
    }

    static void p32_refusedTheRowStays() {
        HueAndCry x = claims(2);
        enact(x, "n=1:1");
        x.reward(5);
        due("reward(0)", x.reward(0), NONE);
        due("reward(1000001)", x.reward(1000001), NONE);
        dueRow("the row stays", x, 0, 5);
    }

    static void p32_noClaims() {
        HueAndCry x = acts(1);
        x.trail(0, 0);
        dueRow("a row ahead", x, 0);
        due("no claims", x.reward(100), 0);
        dueRow("an empty row", x);
    }

    static void p32_noWeights() {
        HueAndCry x = claims(3);
        due("no acts", x.reward(100), 0);
        dueRow("no acts", x, 0, 0, 0);
        enact(x, "n<9:0");
        due("weights of 0", x.reward(100), 0);
        dueRow("weights of 0", x, 0, 0, 0);
    }

    static void p32_oneClaim() {
        HueAndCry x = claims(1);
        enact(x, "n=0:999");
        due("reward", x.reward(1000000), 1000000);
        dueRow("all for one", x, 1000000);
    }

    static void p32_nothingIsLeft() {
        HueAndCry x = claims(3);
        enact(x, "n=0:1");
        enact(x, "n=1:2");
        enact(x, "n=2:3");
        due("reward(12)", x.reward(12), 12);
        dueRow("exact", x, 2, 4, 6);
        due("reward(11)", x.reward(11), 11);
        dueRow("cut down, what is left to the heaviest", x, 1, 3, 7);
        due("reward(13)", x.reward(13), 13);
        dueRow("cut down, what is left to the heaviest", x, 2, 4, 7);
    }

    static void p32_theFirstOfTheGreatest() {
        HueAndCry x = claims(4);
        enact(x, "n=0:2");
        enact(x, "n>0:3");
        due("reward(10)", x.reward(10), 10);
        dueRow("of 10 three are left, for claim 1", x, 1, 5, 2, 2);
    }

    static void p32_lesserWeightsBehindTheGreatest() {
        HueAndCry x = claims(4);
        enact(x, "n=1:3");
        enact(x, "n=3:2");
        enact(x, "n<9:1");
        due("reward(10)", x.reward(10), 10);
        dueRow("weights 1, 3, 1, 2: two are left, for claim 1", x, 1, 6, 1, 2);
    }

    static void p32_fewerThanClaims() {
        HueAndCry x = claims(12);
        enact(x, "n<99:1");
        due("reward(11)", x.reward(11), 11);
        dueRow("all that is left", x, 11, 0, 0, 0, 0, 0, 0, 0, 0, 0, 0, 0);
        due("reward(12)", x.reward(12), 12);
        dueRow("one each", x, 1, 1, 1, 1, 1, 1, 1, 1, 1, 1, 1, 1);
        due("reward(23)", x.reward(23), 23);
        dueRow("one each, and eleven", x, 12, 1, 1, 1, 1, 1, 1, 1, 1, 1, 1, 1);
    }

    static void p32_allTheGreatest() {
        HueAndCry x = claims(12);
        enact(x, "n<99:999");
        due("reward", x.reward(1000000), 1000000);
        due("count(7)", x.count(7), 12);
        due("the first", number(x, 0), 83337);
        for (int i = 1; i < 12; i++) {
            due("claim " + i, number(x, i), 83333);
        }
    }

    static void p32_greatestAgainstLeast() {
        HueAndCry x = claims(2);
        enact(x, "n=0:1");
        enact(x, "n=1:999");
        due("reward(999)", x.reward(999), 999);
        dueRow("less than one part", x, 0, 999);
        due("reward(1000)", x.reward(1000), 1000);
        dueRow("one part", x, 1, 999);
    }

    static void p32_nothingChangesBut() {
        HueAndCry x = claims(2);
        enact(x, "n=0:1");
        x.reward(5);
        due("claims", x.count(6), 2);
        due("acts", x.count(5), 1);
        due("once more", x.reward(5), 5);
        dueRow("as before", x, 5, 0);
    }

    // ---- promise 33: waive

    static void p33_none() {
        HueAndCry x = new HueAndCry();
        due("none", x.waive(), 0);
        due("count(6)", x.count(6), 0);
        due("none again", x.waive(), 0);
    }

    static void p33_allTwelve() {
        HueAndCry x = claims(12);
        due("twelve", x.waive(), 12);
        due("count(6)", x.count(6), 0);
        due("none are left", x.waive(), 0);
        due("no claim 0", x.weight(0), NONE);
        for (int i = 0; i < 12; i++) {
            due("claim " + i + " anew", x.claim(0, 0), i);
        }
        due("the 13th", x.claim(0, 0), NONE);
    }

    static void p33_theOldAreNotBack() {
        HueAndCry x = land(1);
        x.claim(0, 5);
        enact(x, "h=5:9");
        due("weight", x.weight(0), 9);
        x.waive();
        x.claim(0, 6);
        due("another hour", x.weight(0), 0);
        due("no reward", x.reward(9), 0);
    }

    static void p33_actsTapeAndRowStay() {
        HueAndCry x = claims(2);
        enact(x, "n=1:5");
        x.reward(9);
        put(x, "n=0:3");
        x.waive();
        due("acts", x.count(5), 1);
        due("the tape", x.count(8), 5);
        dueRow("the row", x, 0, 9);
        x.reward(9);
        dueRow("until the next is told", x);
    }

    // ---- promise 34: row

    /** The very class of what a call throws, and not one of the machine's. */
    private static void dueThrown(String what, HueAndCry x, int i) {
        String thrown = "nothing";
        try {
            x.row(i);
        } catch (RuntimeException e) {
            thrown = e.getClass().getName();
        }
        due(what + ": row(" + i + ")", thrown, NoSuchElementException.class.getName());
    }

    static void p34_emptyRow() {
        HueAndCry x = new HueAndCry();
        dueThrown("a new object", x, 0);
        dueThrown("a new object", x, -1);
        dueThrown("a new object", x, 1);
        HueAndCry y = land(1);
        y.trail(0, 0);
        y.watch(0, 0);
        dueThrown("an empty row told", y, 0);
    }

    static void p34_firstNumber() {
        HueAndCry x = line(3);
        x.trail(2, 2);
        dueThrown("below 0", x, -1);
        due("row(0)", number(x, 0), 0);
    }

    static void p34_lastNumber() {
        HueAndCry x = line(3);
        x.trail(2, 2);
        due("row(2)", number(x, 2), 2);
        dueThrown("behind the end", x, 3);
    }

    static void p34_farOff() {
        HueAndCry x = line(3);
        x.trail(2, 2);
        for (int odd : FAR_OFF) {
            dueThrown("far off", x, odd);
        }
        dueRow("it stays", x, 0, 1, 2);
    }

    static void p34_longestRow() {
        HueAndCry x = line(24);
        x.seen(23, 23);
        x.vain(1, 46);
        x.trail(1, 47);
        due("row(47)", number(x, 47), 1);
        dueThrown("behind the end", x, 48);
    }

    static void p34_aShorterRowBehindALonger() {
        HueAndCry x = line(5);
        x.trail(4, 4);
        due("row(4)", number(x, 4), 4);
        x.trail(1, 1);
        dueRow("two alone", x, 0, 1);
        dueThrown("nothing of the longer", x, 4);
        dueThrown("nothing of the longer", x, 2);
    }

    static void p34_toldByThreeCalls() {
        HueAndCry x = line(3);
        x.exit(2, true);
        x.claim(0, 0);
        enact(x, "n=0:1");
        x.trail(1, 1);
        dueRow("trail", x, 0, 1);
        x.watch(1, 47);
        dueRow("watch", x, 1);
        x.reward(77);
        dueRow("reward", x, 77);
    }

    static void p34_otherCallsLeaveIt() {
        HueAndCry x = line(3);
        x.trail(2, 2);
        x.parish(0);
        x.road(0, 3, 1);
        x.shut(0, true);
        x.exit(1, true);
        x.begin(1);
        x.count(0);
        x.far(0, 2);
        x.seen(1, 0);
        x.vain(2, 0);
        x.guarded(0, 0);
        x.strike(0, true);
        x.may(0, 5);
        x.was(0, 5);
        x.places(5, 0);
        x.places(5, 1);
        x.first(2);
        x.quarrel();
        x.trait(0, 3, 3);
        x.telling(1);
        x.person(0, 0, 0);
        x.fits(0);
        x.many(NONE);
        x.suspects(5);
        enact(x, "n=0:1");
        x.claim(0, 0);
        x.weight(0);
        x.repeal();
        x.waive();
        dueRow("it stays", x, 0, 1, 2);
    }
}
