/** Part III up to JUDGED, sentence by sentence. */
final class MarketSentences {
    private MarketSentences() {
    }

    /** Things 0 and 1 of 1 to 40 pounds, of no stuff; PRICE is the weight, and a pound takes an hour. */
    private static ByThePound hourly() {
        ByThePound x = new ByThePound();
        due("thing", x.thing(10, 1, 40, 0), 0);
        due("thing", x.thing(20, 1, 40, 0), 1);
        Says.rule(x, "hours weight;");
        return x;
    }

    /** A new offer of one thing at house 0: its number. */
    private static int offered(ByThePound x, int maker, int thing, int weight) {
        int offer = x.offer(maker, 0);
        due("put", x.put(offer, thing, weight, 0), 1);
        return offer;
    }

    // ---- LIKES

    private static void likesWhatHasItems() {
        ByThePound x = Says.small();
        x.buyer(1, 0, 0, 99);
        Says.rule(x, "price 0;");
        x.offer(0, 0);
        due("worth of nothing", x.worth(0, 0), 0);
        due("price of nothing", x.of(0, 1), 0);
        due("without items", x.likes(0), -1);
        due("none is sold", x.year(), 0);
        x.put(0, 0, 2, 0);
        due("with one", x.likes(0), 0);
        due("one is sold", x.year(), 1);
        x.drop(0);
        due("without items again", x.likes(0), -1);
        due("none is sold", x.year(), 0);
        x.put(0, 1, 1, 0);
        x.put(0, 1, 1, 0);
        x.put(0, 1, 1, 0);
        due("with three", x.likes(0), 0);
    }

    private static void likesWhatIsLawful() {
        ByThePound x = Says.small();
        x.buyer(1, 0, 99, 99);
        x.offer(0, 0);
        x.put(0, 0, 6, 0);
        Says.rule(x, "bars weight<6;");
        due("not barred", x.likes(0), 0);
        due("sold", x.year(), 1);
        Says.rule(x, "bars weight<7;");
        due("barred", x.likes(0), -1);
        due("not sold", x.year(), 0);
        x.drop(0);
        x.put(0, 0, 7, 0);
        due("not barred", x.likes(0), 0);
        x.put(0, 1, 3, 0);
        due("for an item that is barred", x.likes(0), -1);
        x.by(-1);
        due("without a law", x.likes(0), 0);
    }

    private static void likesWhatHeCanCarry() {
        ByThePound x = Says.small();
        Says.rule(x, "wet 2; price 0;");
        for (int carry = 8; carry <= 10; carry++) {
            x.buyer(1, 0, 99, carry);
        }
        x.house(0, 50);
        x.offer(0, 0);
        x.put(0, 0, 7, 2);
        due("load", x.of(0, 3), 9);
        due("who carries 8", x.likes(0), -1);
        due("who carries 9", x.likes(1), 0);
        due("who carries 10", x.likes(2), 0);
        due("both buy", x.year(), 2);
        due("who carries 8 lacks", x.told(2, 0), 1);
        x.put(0, 1, 1, 0);
        due("all items count: who carries 9", x.likes(1), -1);
        due("all items count: who carries 10", x.likes(2), 0);
    }

    private static void likesWhatIsWorthIt() {
        ByThePound x = Says.small();
        for (int taste = 5; taste <= 7; taste++) {
            x.buyer(1, 0, taste, 99);
        }
        x.offer(0, 0);
        x.put(0, 0, 6, 0);
        due("worth one below price", x.likes(0), -1);
        due("worth as price", x.likes(1), 0);
        due("worth one above price", x.likes(2), 0);
        due("two buy", x.year(), 2);
        due("the first lacks", x.told(2, 0), 1);
        due("the second doesn't", x.told(2, 1), 0);
    }

    /** Offers of thing 0 in these weights, PRICE weight * weight, WORTH weight * 10: WORTH less PRICE is the same for 5 + n and 5 - n. */
    private static ByThePound square(int... weights) {
        ByThePound x = Says.small();
        x.buyer(1, 0, 0, 99);
        Says.rule(x, "price weight*weight; worth weight*10;");
        for (int weight : weights) {
            offered(x, 0, 0, weight);
        }
        return x;
    }

    private static void byWorthLessPrice() {
        due("5 of 2 to 8", square(2, 3, 4, 5, 6, 7, 8).likes(0), 3);
        due("5 of 8 to 2", square(8, 7, 6, 5, 4, 3, 2).likes(0), 3);
        due("not the cheapest", square(2, 7).likes(0), 1);
        due("not the dearest", square(8, 3).likes(0), 1);
        due("24 before 21", square(3, 6).likes(0), 1);
        due("24 before 21", square(4, 7).likes(0), 0);
        ByThePound x = square(2, 7);
        x.year();
        due("in a year, too", x.of(1, 5), 1);
    }

    private static void ofLikeOnesTheLower() {
        due("4 and 6", square(4, 6).likes(0), 0);
        due("6 and 4", square(6, 4).likes(0), 0);
        due("2, 4 and 6", square(2, 4, 6).likes(0), 1);
        due("the same three times", square(5, 5, 5).likes(0), 0);
        ByThePound x = square(8, 6, 4);
        x.year();
        due("sold of the second", x.of(1, 5), 1);
        due("sold of the third", x.of(2, 5), 0);
    }

    // ---- A YEAR

    private static void allHours() {
        ByThePound x = hourly();
        x.maker(10, 1, 0);
        x.maker(7, 1, 0);
        x.buyer(2, 0, 99, 99);
        offered(x, 0, 0, 4);
        for (int i = 0; i < 3; i++) {
            due("two in each year", x.year(), 2);
            due("hours left of ten", x.told(1, 0), 2);
            due("hours of who sold nothing", x.told(1, 1), 7);
        }
    }

    private static void buyersInTheirOrder() {
        ByThePound x = hourly();
        x.maker(3, 1, 0);
        x.buyer(1, 0, 5, 99);
        x.buyer(2, 0, 99, 99);
        x.buyer(2, 0, 50, 99);
        offered(x, 0, 0, 1);
        due("three", x.year(), 3);
        due("the first lacks none", x.told(2, 0), 0);
        due("the second lacks none", x.told(2, 1), 0);
        due("nothing is left for the third", x.told(2, 2), 2);
        ByThePound y = hourly();
        y.maker(3, 1, 0);
        y.buyer(2, 0, 5, 99);
        y.buyer(2, 0, 99, 99);
        offered(y, 0, 0, 1);
        due("three", y.year(), 3);
        due("the first lacks none", y.told(2, 0), 0);
        due("one is left for the second, who likes it more", y.told(2, 1), 1);
    }

    private static void bestOfThoseThatCanBe() {
        ByThePound x = hourly();
        x.maker(5, 1, 0);
        x.maker(100, 1, 0);
        x.buyer(3, 0, 40, 99);
        offered(x, 1, 0, 9);
        offered(x, 0, 0, 6);
        offered(x, 1, 0, 8);
        due("of all he likes the second best", x.likes(0), 1);
        due("all three buy", x.year(), 3);
        due("there can't be one of it", x.of(1, 5), 0);
        due("the best of the others", x.of(2, 5), 3);
        due("the worst", x.of(0, 5), 0);
        ByThePound y = hourly();
        y.maker(6, 1, 0);
        y.buyer(3, 0, 40, 99);
        offered(y, 0, 0, 6);
        due("there can be one", y.year(), 1);
    }

    /** Sold by a maker of so many hours, of an offer that needs three. */
    private static void needsThree(int hours, int sold, int left) {
        ByThePound x = hourly();
        x.maker(hours, 1, 0);
        x.buyer(9, 0, 40, 99);
        offered(x, 0, 0, 3);
        due("sold in " + hours, x.year(), sold);
        due("left of " + hours, x.told(1, 0), left);
        due("lacks by " + hours, x.told(2, 0), 9 - sold);
    }

    private static void asManyHoursAsItNeeds() {
        needsThree(0, 0, 0);
        needsThree(2, 0, 2);
        needsThree(3, 1, 0);
        needsThree(4, 1, 1);
        needsThree(5, 1, 2);
        needsThree(6, 2, 0);
        ByThePound x = hourly();
        x.maker(7, 3, 0);
        x.buyer(9, 0, 40, 99);
        x.offer(0, 0);
        x.put(0, 0, 3, 0);
        x.put(0, 1, 4, 0);
        due("what all its items need", x.year(), 1);
        x.drop(0);
        x.put(0, 0, 3, 0);
        x.put(0, 1, 5, 0);
        due("an hour more than there is", x.year(), 0);
    }

    private static void asManyAsAreLeft() {
        ByThePound x = hourly();
        x.maker(9999, 1, 0);
        x.buyer(5, 0, 40, 99);
        x.buyer(999, 0, 40, 99);
        offered(x, 0, 0, 1);
        due("all", x.year(), 1004);
        due("sold", x.of(0, 5), 1004);
        due("nobody lacks", x.told(2, 0) + x.told(2, 1), 0);
        due("hours", x.told(1, 0), 9999 - 1004);
    }

    private static void asHoursLet() {
        needsThree(26, 8, 2);
        needsThree(27, 9, 0);
        needsThree(28, 9, 1);
        needsThree(30, 9, 3);
    }

    private static void thenTheNextBest() {
        ByThePound x = hourly();
        x.maker(5, 1, 0);
        x.maker(2, 1, 0);
        x.maker(4, 1, 0);
        x.buyer(8, 0, 40, 99);
        offered(x, 0, 0, 3);
        offered(x, 0, 0, 2);
        offered(x, 1, 0, 1);
        offered(x, 2, 0, 4);
        // the best is offer 2 (two of it), then offer 1 (two of it), then offer 0 (an hour is left, so none), then offer 3 (one)
        due("five", x.year(), 5);
        due("the best", x.of(2, 5), 2);
        due("the next best", x.of(1, 5), 2);
        due("of one there can't be one more", x.of(0, 5), 0);
        due("the last", x.of(3, 5), 1);
        due("hours", x.told(1, 0), 1);
        due("hours", x.told(1, 1), 0);
        due("hours", x.told(1, 2), 0);
        due("lacks", x.told(2, 0), 3);
    }

    private static void nextBestOfLikeOnes() {
        ByThePound x = hourly();
        x.maker(2, 1, 0);
        x.maker(2, 1, 0);
        x.buyer(3, 0, 40, 99);
        offered(x, 1, 0, 1);
        offered(x, 0, 0, 1);
        due("three", x.year(), 3);
        due("the lower", x.of(0, 5), 2);
        due("then the other", x.of(1, 5), 1);
        ByThePound y = hourly();
        y.maker(7, 1, 0);
        y.buyer(20, 0, 40, 99);
        for (int weight = 5; weight >= 2; weight--) {
            offered(y, 0, 0, weight);
        }
        due("by the same maker: three of two hours, and an hour is left", y.year(), 3);
        due("hours", y.told(1, 0), 1);
    }

    private static void whoIsLeftLacks() {
        ByThePound x = hourly();
        x.maker(4, 1, 0);
        x.buyer(4, 0, 40, 99);
        x.buyer(5, 1, 40, 99);
        offered(x, 0, 0, 1);
        due("four", x.year(), 4);
        due("nobody is left", x.told(2, 0), 0);
        due("all that like nothing are left", x.told(2, 1), 5);
        ByThePound y = hourly();
        y.maker(3, 1, 0);
        y.buyer(4, 0, 40, 99);
        offered(y, 0, 0, 1);
        y.year();
        due("one is left", y.told(2, 0), 1);
        ByThePound z = hourly();
        z.buyer(7, 0, 40, 99);
        due("without offers", z.year(), 0);
        due("all are left", z.told(2, 0), 7);
    }

    private static void earnsOfEach() {
        ByThePound x = new ByThePound();
        x.thing(10, 1, 40, 2);
        x.maker(100, 1, 3);
        x.maker(100, 1, 0);
        x.buyer(7, 0, 99, 99);
        Says.rule(x, "hours 2; price 20;");
        offered(x, 0, 0, 4);
        offered(x, 1, 0, 4);
        due("seven", x.year(), 7);
        due("20 less 6 and 8", x.told(0, 0), 7 * 6);
        due("none of the other", x.told(0, 1), 0);
        Says.rule(x, "hours 2; price 14;");
        x.year();
        due("price as cost", x.told(0, 0), 0);
        Says.rule(x, "hours 2; price 13;");
        x.year();
        due("price one below cost", x.told(0, 0), -7);
        x.drop(0);
        x.year();
        due("the other then", x.told(0, 1), 7 * 5);
    }

    // ---- told of it

    /** Two makers with two offers each, two buyers: of the first 3 take offer 2 and 2 offer 0, of the second 4 take offer 3. */
    private static ByThePound busy() {
        ByThePound x = hourly();
        x.maker(9, 3, 0);
        x.maker(40, 3, 2);
        x.buyer(5, 0, 30, 99);
        x.buyer(4, 1, 20, 99);
        offered(x, 1, 0, 4);
        offered(x, 0, 1, 19);
        offered(x, 0, 0, 3);
        offered(x, 1, 1, 6);
        due("nine", x.year(), 9);
        return x;
    }

    private static void soldOfEach() {
        ByThePound x = busy();
        int[] sold = {2, 0, 3, 4};
        for (int offer = 0; offer < sold.length; offer++) {
            due("sold of " + offer, x.of(offer, 5), sold[offer]);
        }
    }

    private static void earnedOfEach() {
        ByThePound x = busy();
        due("three of 3, without wage", x.told(0, 0), 9);
        due("by a wage of 2, an hour for a pound: two of -4 and four of -6", x.told(0, 1), -32);
    }

    private static void hoursLeft() {
        ByThePound x = busy();
        due("nine less nine", x.told(1, 0), 0);
        due("40 less 8 and 24", x.told(1, 1), 8);
    }

    private static void lacksOfEach() {
        ByThePound x = busy();
        due("none", x.told(2, 0), 0);
        due("none", x.told(2, 1), 0);
        x.drop(0);
        x.drop(3);
        due("three", x.year(), 3);
        due("two of the first", x.told(2, 0), 2);
        due("all of the second but whom the maker of 19 pounds can't serve", x.told(2, 1), 4);
    }

    private static void gain() {
        ByThePound x = busy();
        due("three times 27 and two times 26", x.told(3, 0), 3 * 27 + 2 * 26);
        due("four times 14", x.told(3, 1), 4 * 14);
        Says.rule(x, "hours weight; price 20;");
        x.year();
        due("worth less price", x.told(3, 0), 5 * 10);
        due("worth as price", x.told(3, 1), 0);
    }

    // ---- JUDGED

    private static void theFirstOffer() {
        ByThePound x = new ByThePound();
        x.thing(10, 1, 40, 1);
        x.maker(2, 1, 0);
        x.maker(2, 1, 0);
        x.maker(9, 1, 0);
        x.buyer(9, 0, 99, 99);
        for (int maker = 0; maker < 3; maker++) {
            offered(x, maker, 0, 3);
        }
        due("nine", x.year(), 2 + 2 + 5);
        x.house(0, 66);
        due("all are below cost: the first", x.judge(), 0);
        x.drop(0);
        due("then the second", x.judge(), 1);
        x.drop(1);
        due("then the third", x.judge(), 2);
        x.drop(2);
        due("none", x.judge(), -1);
    }

    private static void someWereSold() {
        ByThePound x = Says.small();
        x.buyer(1, 0, 99, 99);
        offered(x, 0, 0, 8);
        offered(x, 0, 0, 7);
        x.house(0, 50);
        due("ahead of any year", x.judge(), -1);
        due("one", x.year(), 1);
        due("none of the first", x.of(0, 5), 0);
        due("one of the second", x.judge(), 1);
    }

    private static void byTheLatestYear() {
        ByThePound x = Says.small();
        x.buyer(1, 0, 99, 99);
        x.house(0, 50);
        offered(x, 0, 0, 8);
        x.year();
        due("sold", x.judge(), 0);
        offered(x, 0, 0, 6);
        due("the latest year is as it was", x.judge(), 0);
        x.year();
        due("not sold in the latest", x.judge(), 1);
    }

    private static void priceNowBelowCostNow() {
        ByThePound x = Says.small();
        x.buyer(1, 0, 99, 99);
        offered(x, 0, 0, 8);
        x.year();
        due("8 of 8", x.judge(), -1);
        x.house(0, 99);
        due("7 of 8", x.judge(), 0);
        x.house(0, 113);
        due("9 of 8", x.judge(), -1);
        Says.rule(x, "price 7;");
        due("price by THE TEXT", x.judge(), 0);
        x.drop(0);
        due("nothing costs nothing", x.judge(), -1);
        x.put(0, 0, 7, 0);
        due("7 of 7", x.judge(), -1);
    }

    private static void costNow() {
        ByThePound x = new ByThePound();
        x.thing(10, 1, 40, 0);
        x.maker(100, 1, 2);
        x.buyer(1, 0, 99, 99);
        offered(x, 0, 0, 6);
        x.year();
        due("6 for 2 hours of 2", x.judge(), -1);
        Says.rule(x, "hours 3;");
        due("6 for 3 hours of 2", x.judge(), -1);
        Says.rule(x, "hours 4;");
        due("6 for 4 hours of 2", x.judge(), 0);
        Says.rule(x, "hours 4; bars 1=1;");
        due("barred, but it was sold", x.judge(), 0);
    }

    private static void due(String call, long got, long want) {
        Says.due(call, got, want);
    }

    private static void likes() {
        Says.says("III", "A BUYER LIKES an OFFER that has ITEMS", MarketSentences::likesWhatHasItems);
        Says.says("III", "is LAWFUL", MarketSentences::likesWhatIsLawful);
        Says.says("III", "of LOAD not above CARRY", MarketSentences::likesWhatHeCanCarry);
        Says.says("III", "and WORTH not below PRICE", MarketSentences::likesWhatIsWorthIt);
        Says.says("III", "by WORTH less PRICE", MarketSentences::byWorthLessPrice);
        Says.says("III", "of like ones the lower OFFER.", MarketSentences::ofLikeOnesTheLower);
    }

    private static void year() {
        Says.says("III", "A YEAR: each MAKER has all HOURS", MarketSentences::allHours);
        Says.says("III", "BUYERS in their order", MarketSentences::buyersInTheirOrder);
        Says.says("III", "those of MANY that are left take the OFFER that they LIKE best of those of which there can be one more",
            MarketSentences::bestOfThoseThatCanBe);
        Says.says("III", "(HOURS left of its MAKER are as many as it needs)", MarketSentences::asManyHoursAsItNeeds);
        Says.says("III", "as many as are left", MarketSentences::asManyAsAreLeft);
        Says.says("III", "or as HOURS let", MarketSentences::asHoursLet);
        Says.says("III", "then the next best, ..", MarketSentences::thenTheNextBest);
        Says.says("III", "then the next best, ..", MarketSentences::nextBestOfLikeOnes);
        Says.says("III", "who is left then LACKS.", MarketSentences::whoIsLeftLacks);
        Says.says("III", "A MAKER EARNS PRICE less COST of each.", MarketSentences::earnsOfEach);
        Says.says("III", "Told of it: SOLD of each OFFER", MarketSentences::soldOfEach);
        Says.says("III", "EARNED of each MAKER", MarketSentences::earnedOfEach);
        Says.says("III", "HOURS left, ", MarketSentences::hoursLeft);
        Says.says("III", "LACKS of each BUYER", MarketSentences::lacksOfEach);
        Says.says("III", "what BUYERS GAIN (WORTH less PRICE of all that they took, together).", MarketSentences::gain);
    }

    private static void judged() {
        Says.says("III", "JUDGED: the first OFFER", MarketSentences::theFirstOffer);
        Says.says("III", "of which some were SOLD", MarketSentences::someWereSold);
        Says.says("III", "by the latest YEAR", MarketSentences::byTheLatestYear);
        Says.says("III", "and PRICE (now) is below", MarketSentences::priceNowBelowCostNow);
        Says.says("III", "below COST (now); none.", MarketSentences::costNow);
    }

    static void all() {
        likes();
        year();
        judged();
    }
}
