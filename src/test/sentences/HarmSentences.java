/** Part IV up to BEST HOUSE, sentence by sentence. */
final class HarmSentences {
    private HarmSentences() {
    }

    /** Two things of 1 to 10 pounds, of no stuff; makers of both without wage and with a wage of 2; ten buyers of thing 0 for 9. */
    private static ByThePound ten() {
        ByThePound x = new ByThePound();
        due("thing", x.thing(10, 1, 10, 0), 0);
        due("thing", x.thing(20, 1, 10, 0), 1);
        due("maker", x.maker(9999, 3, 0), 0);
        due("maker", x.maker(9999, 3, 2), 1);
        due("buyer", x.buyer(10, 0, 9, 99), 0);
        return x;
    }

    private static int offered(ByThePound x, int maker, int thing, int weight) {
        int offer = x.offer(maker, 0);
        due("put", x.put(offer, thing, weight, 0), 1);
        return offer;
    }

    // ---- COULD

    /** The text is told and gone again: there can be six of them. */
    private static void could(ByThePound x, String s, int want) {
        x.image();
        int text = Says.read(x, s);
        due("there is a text: " + s, text >= 0, true);
        due("could by " + s, x.harm(text, 0), want);
        x.back();
    }

    private static void withoutALaw() {
        ByThePound x = ten();
        due("without a text", x.harm(-1, 0), 90);
        could(x, "bars 1=1;", 90);
        could(x, "price 9999; bars tied=1;", 90);
        could(x, "wet 9;", 90);
        ByThePound y = Says.small();
        y.buyer(1, 0, 9, 99);
        due("without an offer", y.harm(-1, 0), 7);
        could(y, "bars weight<9;", 7);
    }

    private static void buyersManyTimes() {
        ByThePound x = ten();
        x.buyer(999, 1, 99, 99);
        due("with the others", x.harm(-1, 0), 90 + 999 * 99);
        x.buyer(1, 0, 0, 99);
        due("with one of worth 0", x.harm(-1, 0), 90 + 999 * 99);
        x.buyer(1, 1, 1, 99);
        due("with one of worth 1", x.harm(-1, 0), 90 + 999 * 99 + 1);
    }

    private static void theGreatestWorthLessCost() {
        ByThePound x = Says.small();
        x.buyer(1, 0, 99, 99);
        could(x, "worth (1-thing)*(9*weight-weight*weight);", 16);
        could(x, "worth 9*weight-weight*weight;", 18);
        could(x, "worth 3*weight;", 16);
        could(x, "worth 3*weight+8*thing;", 17);
        could(x, "worth 99-weight;", 98);
        could(x, "worth 21-2*weight*(1-thing)-9*thing;", 15);
        could(x, "worth 50;", 50);
        could(x, "worth 50*(1-thing);", 48);
    }

    private static void ofOneThing() {
        ByThePound x = Says.small();
        x.buyer(1, 0, 9, 99);
        could(x, "worth 20+thing*5;", 25);
        could(x, "worth 20-thing*5;", 18);
        could(x, "worth 20*tied;", 20);
        ByThePound y = new ByThePound();
        y.thing(9, 1, 1, 0);
        y.maker(9, 1, 1);
        y.buyer(1, 0, 30, 99);
        could(y, "hours 3*tied;", 27);
        could(y, "hours 3*(tied-1);", 29);
        could(y, "worth taste*tied-tied;", 28);
        could(x, "worth taste+want*5;", 12);
        could(x, "worth taste*(1-want);", 9);
        could(x, "worth size;", 20);
    }

    private static void ofAnyWeight() {
        ByThePound x = Says.small();
        x.buyer(1, 0, 9, 99);
        could(x, "worth (1-thing)*100*(1-weight/2);", 0);
        could(x, "worth (1-thing)*100*(1-weight/3);", 98);
        could(x, "worth (1-thing)*100*(weight/8);", 92);
        could(x, "worth (1-thing)*100*(weight/9);", 0);
        could(x, "worth thing*100*(weight/3);", 100);
        could(x, "worth thing*100*(weight/4);", 0);
        could(x, "worth thing*100*(1-weight/2);", 100);
        could(x, "worth thing*100*(1-weight);", 0);
    }

    private static void byAnyMakerOfIt() {
        ByThePound x = new ByThePound();
        x.thing(10, 2, 8, 1);
        x.thing(20, 1, 3, 0);
        x.buyer(10, 0, 30, 99);
        due("without makers", x.harm(-1, 0), 0);
        x.maker(50, 1022, 0);
        due("a maker of all others", x.harm(-1, 0), 0);
        x.maker(50, 1, 9);
        due("30 less 2 and 9", x.harm(-1, 0), 190);
        x.maker(50, 3, 12);
        due("a dearer one", x.harm(-1, 0), 190);
        x.maker(50, 1, 5);
        due("a cheaper one", x.harm(-1, 0), 230);
        x.maker(50, 2, 1);
        due("a maker of the other alone", x.harm(-1, 0), 230);
    }

    private static void carryCounts() {
        for (int carry = 1; carry <= 4; carry++) {
            ByThePound x = new ByThePound();
            x.thing(10, 3, 8, 0);
            x.maker(50, 1, 0);
            x.buyer(10, 0, 9, carry);
            due("who carries " + carry, x.harm(-1, 0), carry < 3 ? 0 : 90);
            could(x, "worth weight;", carry < 3 ? 0 : 10 * carry);
        }
        ByThePound y = new ByThePound();
        y.thing(10, 3, 8, 0);
        y.maker(50, 1, 0);
        y.buyer(10, 0, 9, 5);
        y.buyer(10, 0, 9, 8);
        y.buyer(10, 0, 9, 9);
        could(y, "worth weight;", 50 + 80 + 80);
    }

    private static void hoursDont() {
        ByThePound x = new ByThePound();
        x.thing(10, 2, 8, 0);
        x.maker(0, 1, 3);
        x.buyer(999, 0, 9, 99);
        due("by a maker without hours", x.harm(-1, 0), 999 * 6);
        could(x, "hours 2;", 999 * 3);
        could(x, "hours 3;", 0);
        could(x, "hours weight;", 999 * 3);
    }

    private static void zeroIfNoneIsAbove() {
        ByThePound x = Says.small();
        x.buyer(10, 0, 2, 99);
        due("worth as cost", x.harm(-1, 0), 0);
        x.buyer(10, 0, 3, 99);
        due("worth one above cost", x.harm(-1, 0), 10);
        x.buyer(10, 0, 1, 99);
        due("worth one below cost", x.harm(-1, 0), 10);
        could(x, "worth taste*want-50;", 0);
        could(x, "worth 0-9999;", 0);
        ByThePound y = new ByThePound();
        due("of nothing", y.harm(-1, 0), 0);
    }

    // ---- HAD

    private static void buyersGainAndMakersEarn() {
        ByThePound x = ten();
        due("without offers", x.harm(-1, 1), 0);
        offered(x, 0, 0, 4);
        due("ten times 5 and 4", x.harm(-1, 1), 50 + 40);
        x.buyer(3, 1, 8, 99);
        offered(x, 1, 1, 5);
        due("and three times 3 and 1", x.harm(-1, 1), 90 + 9 + 3);
        x.drop(0);
        offered(x, 1, 0, 4);
        due("ten times 5 and 0", x.harm(-1, 1), 50 + 0 + 9 + 3);
        Says.rule(x, "price 0;");
        due("not by THE TEXT", x.harm(-1, 1), 62);
        due("ten times 9 and -4, three times 8 and -4", x.harm(0, 1), 50 + 12);
        Says.rule(x, "worth 0-weight; price 0-9;");
        due("none is liked", x.harm(1, 1), 0);
        Says.rule(x, "price 0; worth 1;");
        due("the first: thirteen times 1 and -4", x.harm(2, 1), 13 - 52);
    }

    private static void inAYearTried() {
        ByThePound x = ten();
        offered(x, 0, 0, 4);
        due("without a year", x.harm(-1, 1), 90);
        due("none is told", x.told(0, 0) + x.told(3, 0), 0);
        due("a year", x.year(), 10);
        x.drop(0);
        due("not of the latest one", x.harm(-1, 1), 0);
        due("which stays", x.told(0, 0) + x.told(3, 0), 90);
    }

    private static void harmIsCouldLessHad() {
        ByThePound x = ten();
        offered(x, 0, 0, 4);
        due("all is had", x.harm(-1, 2), 0);
        x.put(0, 1, 3, 0);
        due("all is had", x.harm(-1, 2), 0);
        x.put(0, 1, 3, 0);
        due("too dear", x.harm(-1, 2), 90);
        Says.read(x, "worth 5;");
        due("could: fifty", x.harm(0, 0), 50);
        due("had: ten of three for 15", x.harm(0, 1), 150);
        due("less than 0", x.harm(0, 2), -100);
    }

    private static void asIfItWereTheText() {
        ByThePound x = ten();
        offered(x, 1, 0, 4);
        Says.read(x, "worth 20; hours 1;");
        Says.read(x, "bars 1=1;");
        for (int by = -1; by <= 1; by++) {
            due("by", x.by(by), true);
            due("could, without", x.harm(-1, 0), 90);
            due("had, without", x.harm(-1, 1), 50);
            due("could, by 0", x.harm(0, 0), 200);
            due("had, by 0", x.harm(0, 1), 180);
            due("harm, by 0", x.harm(0, 2), 20);
            due("could, by 1", x.harm(1, 0), 90);
            due("had, by 1", x.harm(1, 1), 0);
            due("harm, by 1", x.harm(1, 2), 90);
            due("THE TEXT stays", x.about(5), by);
        }
    }

    // ---- LEAST HARM

    /** LEAST HARM of texts under which ten buyers of worth 9 can have nothing, or all. */
    private static void leastIs(int want, String... texts) {
        ByThePound x = ten();
        offered(x, 0, 0, 4);
        for (String text : texts) {
            Says.read(x, text);
        }
        due("least of " + String.join(" ", texts), x.least(), want);
    }

    private static void leastHarm() {
        String barred = "bars 1=1;";
        leastIs(0, barred);
        leastIs(0, "");
        leastIs(1, barred, "");
        leastIs(0, "", barred);
        leastIs(5, barred, barred, barred, barred, barred, "");
        leastIs(1, barred, "worth 5;", "worth 4;");
        leastIs(1, "worth taste-1; hours 1; bars 1=1;", "worth taste-2; hours 1; bars 1=1;");
    }

    private static void leastBelow0() {
        ByThePound x = ten();
        x.offer(0, 0);
        for (int i = 0; i < 3; i++) {
            x.put(0, 1, 1, 0);
        }
        Says.read(x, "");
        Says.read(x, "worth 5;");
        Says.read(x, "worth 7;");
        Says.read(x, "worth 6;");
        due("ninety", x.harm(0, 2), 90);
        due("ten times 5 less 15", x.harm(1, 2), -100);
        due("ten times 7 less 21", x.harm(2, 2), -140);
        due("least", x.least(), 2);
    }

    private static void theLowestOfLikeHarm() {
        leastIs(0, "", "");
        leastIs(0, "bars 1=1;", "bars 1=1;");
        leastIs(1, "bars 1=1;", "price weight+1;", "", "price weight;");
        leastIs(0, "price 5;", "price 4;", "price 0;", "bars 1=1;");
    }

    // ---- CHANGED

    private static void changedIs(ByThePound x, int text, int buyersMore, int buyersLess, int makersMore, int makersLess) {
        due("buyers more by " + text, x.changed(text, 0), buyersMore);
        due("buyers less by " + text, x.changed(text, 1), buyersLess);
        due("makers more by " + text, x.changed(text, 2), makersMore);
        due("makers less by " + text, x.changed(text, 3), makersLess);
    }

    /** Buyers 0 and 1 of things 0 and 1, offered by makers 0 and 1. */
    private static ByThePound two() {
        ByThePound x = ten();
        x.buyer(10, 1, 9, 99);
        offered(x, 0, 0, 4);
        offered(x, 1, 1, 4);
        return x;
    }

    private static void fromTheText() {
        ByThePound x = two();
        Says.read(x, "price weight+thing;");
        Says.read(x, "price weight-thing;");
        changedIs(x, -1, 0, 0, 0, 0);
        changedIs(x, 0, 0, 2, 2, 0);
        changedIs(x, 1, 2, 0, 0, 2);
        x.by(0);
        changedIs(x, 0, 0, 0, 0, 0);
        changedIs(x, 1, 2, 0, 0, 2);
        changedIs(x, -1, 2, 0, 0, 2);
        x.by(1);
        changedIs(x, 0, 0, 2, 2, 0);
        changedIs(x, -1, 0, 2, 2, 0);
        due("THE TEXT stays", x.about(5), 1);
    }

    private static void bitsOfBuyers() {
        ByThePound x = new ByThePound();
        x.thing(10, 1, 10, 0);
        x.thing(20, 1, 10, 0);
        x.maker(9999, 3, 0);
        for (int i = 0; i < 10; i++) {
            x.buyer(1, i == 0 || i == 9 ? 0 : 1, 9, 99);
        }
        offered(x, 0, 0, 5);
        offered(x, 0, 1, 5);
        Says.read(x, "price 4+2*thing;");
        changedIs(x, 0, 1 | 1 << 9, 1023 - 1 - (1 << 9), 1, 0);
        Says.read(x, "price weight-thing;");
        changedIs(x, 1, 1023 - 1 - (1 << 9), 0, 0, 1);
        Says.read(x, "price 9;");
        changedIs(x, 2, 0, 1023, 1, 0);
        Says.read(x, "price 10;");
        changedIs(x, 3, 0, 1023, 0, 1);
        Says.read(x, "price 4*weight/4;");
        changedIs(x, 4, 0, 0, 0, 0);
    }

    private static void gainInAYearTried() {
        ByThePound x = two();
        due("a year by no text", x.year(), 20);
        Says.read(x, "price weight+thing;");
        x.drop(1);
        changedIs(x, 0, 0, 0, 0, 0);
        x.drop(0);
        x.put(1, 1, 4, 0);
        changedIs(x, 0, 0, 2, 2, 0);
        due("the latest year stays", x.told(3, 0), 50);
    }

    /** Six makers of an hour each, whose offers of 3, 3, 4, 5, 6, 7 pounds are taken one by one. */
    private static void bitsOfMakers() {
        ByThePound x = new ByThePound();
        x.thing(10, 1, 10, 0);
        for (int i = 0; i < 6; i++) {
            x.maker(1, 1, 0);
            offered(x, i, 0, i < 2 ? 3 : i + 2);
        }
        x.buyer(6, 0, 99, 99);
        Says.rule(x, "hours 1;");
        due("of each one", x.year(), 6);
        Says.read(x, "hours 1; price weight*2-5;");
        // 1, 1, 3, 5, 7, 9: all together 26, as 28
        changedIs(x, 1, 1, 0, 1 << 4 | 1 << 5, 7);
        Says.read(x, "hours 1; bars weight=7;");
        changedIs(x, 2, 0, 1, 0, 1 << 5);
        Says.read(x, "hours 2;");
        changedIs(x, 3, 0, 1, 0, 63);
        changedIs(x, -1, 0, 1, 0, 63 - 3);
        x.by(3);
        changedIs(x, 0, 1, 0, 63, 0);
        changedIs(x, -1, 1, 0, 3, 0);
        changedIs(x, 2, 1, 0, 31, 0);
    }

    /** A maker who earns below 0 earns less than one who sells nothing. */
    private static void makersBelow0() {
        ByThePound x = ten();
        offered(x, 1, 0, 2);
        due("ten", x.year(), 10);
        due("2 less 2", x.told(0, 1), 0);
        Says.read(x, "price 1;");
        changedIs(x, 0, 1, 0, 0, 2);
        Says.read(x, "bars 1=1;");
        changedIs(x, 1, 0, 1, 0, 0);
        x.by(0);
        changedIs(x, 1, 0, 1, 2, 0);
    }

    // ---- BEST HOUSE

    private static void bestHouseOfAnOffer() {
        ByThePound x = ten();
        x.offer(0, 3);
        x.put(0, 0, 5, 0);
        x.offer(0, 2);
        x.put(1, 1, 4, 0);
        x.buyer(5, 1, 6, 99);
        x.house(0, 60);
        x.house(1, 140);
        x.house(2, 150);
        due("five for seven at 1, as at 2", x.where(0), 1);
        due("four for five at 1, for six at 2", x.where(1), 2);
        x.house(3, 149);
        due("as at 3", x.where(0), 1);
        x.buyer(10, 0, 6, 99);
        due("six for twenty is more than seven for ten", x.house(3, 120), true);
        due("at 3", x.where(0), 3);
        due("it stays at 3", x.of(0, 1), 6);
        due("the other stays at 2", x.of(1, 1), 6);
    }

    private static void atWhichItsMakerEarnsMost() {
        ByThePound x = ten();
        x.offer(1, 1);
        x.put(0, 0, 6, 0);
        x.house(0, 50);
        x.house(1, 60);
        x.house(2, 150);
        x.house(3, 149);
        due("nine at 2 less 4", x.where(0), 2);
        x.offer(1, 0);
        x.house(1, 134);
        x.put(1, 0, 6, 0);
        due("three beside: at 0 to 3 the other sells, of like ones the lowest", x.where(0), 0);
        due("the other: eight for both, if it isn't the cheaper one", x.where(1), 1);
        x.drop(1);
        Says.rule(x, "bars weight#3;");
        due("lawful at 0, but by a loss of 1", x.where(0), 1);
        Says.rule(x, "bars weight#9; price 20-weight;");
        due("of nine for 11: none buys it; of like ones the lowest", x.where(0), 0);
        Says.rule(x, "bars weight#9; price weight;");
        due("lawful at 2 alone", x.where(0), 2);
    }

    private static void whereInAYearTried() {
        ByThePound x = ten();
        offered(x, 0, 0, 5);
        x.house(3, 150);
        due("a year", x.year(), 10);
        due("best", x.where(0), 3);
        due("sold stays", x.of(0, 5), 10);
        due("earned stays", x.told(0, 0), 50);
        due("price stays", x.of(0, 1), 5);
    }

    private static void whereOfLikeOnes() {
        ByThePound x = ten();
        x.offer(0, 2);
        x.put(0, 0, 5, 0);
        due("all are alike", x.where(0), 0);
        x.house(0, 99);
        due("three are alike", x.where(0), 1);
        x.house(1, 99);
        due("two are alike", x.where(0), 2);
        x.house(2, 99);
        due("one is best", x.where(0), 3);
        x.house(3, 99);
        due("all are alike", x.where(0), 0);
        x.drop(0);
        due("without items", x.where(0), 0);
    }

    private static void due(String call, long got, long want) {
        Says.due(call, got, want);
    }

    private static void due(String call, boolean got, boolean want) {
        Says.due(call, got, want);
    }

    private static void couldAll() {
        Says.says("IV", "COULD: what could be had without a LAW", HarmSentences::withoutALaw);
        Says.says("IV", "over BUYERS MANY times", HarmSentences::buyersManyTimes);
        Says.says("IV", "the greatest WORTH less COST", HarmSentences::theGreatestWorthLessCost);
        Says.says("IV", "of one THING", HarmSentences::ofOneThing);
        Says.says("IV", "of any WEIGHT", HarmSentences::ofAnyWeight);
        Says.says("IV", "by any MAKER of it", HarmSentences::byAnyMakerOfIt);
        Says.says("IV", "(CARRY counts", HarmSentences::carryCounts);
        Says.says("IV", "HOURS don't", HarmSentences::hoursDont);
        Says.says("IV", "0 if none is above that), together.", HarmSentences::zeroIfNoneIsAbove);
    }

    private static void hadAndHarm() {
        Says.says("IV", "HAD: what BUYERS GAIN and MAKERS EARN", HarmSentences::buyersGainAndMakersEarn);
        Says.says("IV", "in a YEAR TRIED, together.", HarmSentences::inAYearTried);
        Says.says("IV", "HARM of a TEXT: COULD less HAD", HarmSentences::harmIsCouldLessHad);
        Says.says("IV", "both as if it were THE TEXT.", HarmSentences::asIfItWereTheText);
        Says.says("IV", "LEAST HARM: the lowest TEXT of least HARM.", HarmSentences::leastHarm);
        Says.says("IV", "of least HARM.", HarmSentences::leastBelow0);
        Says.says("IV", "the lowest TEXT", HarmSentences::theLowestOfLikeHarm);
    }

    private static void changed() {
        Says.says("IV", "CHANGED from THE TEXT to another one", HarmSentences::fromTheText);
        Says.says("IV", "bits of BUYERS whose GAIN", HarmSentences::bitsOfBuyers);
        Says.says("IV", "(each in a YEAR TRIED)", HarmSentences::gainInAYearTried);
        Says.says("IV", "is more, less; bits of MAKERS who EARN more, less.", HarmSentences::bitsOfMakers);
        Says.says("IV", "who EARN more, less.", HarmSentences::makersBelow0);
    }

    private static void where() {
        Says.says("IV", "BEST HOUSE of an OFFER", HarmSentences::bestHouseOfAnOffer);
        Says.says("IV", "that at which its MAKER EARNS most", HarmSentences::atWhichItsMakerEarnsMost);
        Says.says("IV", "EARNS most in a YEAR TRIED", HarmSentences::whereInAYearTried);
        Says.says("IV", "of like ones the lowest.", HarmSentences::whereOfLikeOnes);
    }

    static void all() {
        couldAll();
        hadAndHarm();
        changed();
        where();
    }
}
