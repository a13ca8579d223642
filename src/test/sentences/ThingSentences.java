/** Part I, sentence by sentence. */
final class ThingSentences {
    private ThingSentences() {
    }

    private static void things() {
        ByThePound x = new ByThePound();
        due("none yet", x.about(0), 0);
        for (int i = 0; i <= 9; i++) {
            due("thing " + i, x.thing(5, 1, 1, 0), i);
        }
        due("an eleventh", x.thing(5, 1, 1, 0), -1);
        due("things", x.about(0), 10);
    }

    private static void thingsOneByOne() {
        ByThePound x = new ByThePound();
        due("refused", x.thing(0, 1, 1, 0), -1);
        due("the first, as a refused one has no number", x.thing(5, 1, 1, 0), 0);
        due("the same again", x.thing(5, 1, 1, 0), 1);
        due("things", x.about(0), 2);
    }

    private static void size() {
        ByThePound x = new ByThePound();
        due("0", x.thing(0, 1, 1, 0), -1);
        due("1", x.thing(1, 1, 1, 0), 0);
        due("99", x.thing(99, 1, 1, 0), 1);
        due("100", x.thing(100, 1, 1, 0), -1);
        due("-1", x.thing(-1, 1, 1, 0), -1);
    }

    private static void leastAndMost() {
        ByThePound x = new ByThePound();
        due("least 0", x.thing(5, 0, 5, 0), -1);
        due("least 1, most 1", x.thing(5, 1, 1, 0), 0);
        due("most 40, least 40", x.thing(5, 40, 40, 0), 1);
        due("most 41", x.thing(5, 1, 41, 0), -1);
        due("least 41, most 41", x.thing(5, 41, 41, 0), -1);
        due("least 0, most 0", x.thing(5, 0, 0, 0), -1);
        due("least 1, most 40", x.thing(5, 1, 40, 0), 2);
    }

    private static void leastNotAboveMost() {
        ByThePound x = new ByThePound();
        due("as much", x.thing(5, 7, 7, 0), 0);
        due("one above", x.thing(5, 8, 7, 0), -1);
        due("one below", x.thing(5, 6, 7, 0), 1);
        due("least 2, most 1", x.thing(5, 2, 1, 0), -1);
        due("least 40, most 39", x.thing(5, 40, 39, 0), -1);
    }

    private static void itsWeights() {
        ByThePound x = Says.small();
        x.offer(0, 0);
        due("least less one", x.put(0, 0, 1, 0), -1);
        due("least", x.put(0, 0, 2, 0), 1);
        due("its pounds are the load", x.of(0, 3), 2);
        due("most", x.put(0, 0, 8, 0), 2);
        due("its pounds are the load", x.of(0, 3), 10);
        due("most and one", x.put(0, 0, 9, 0), -1);
    }

    private static void stuff() {
        ByThePound x = new ByThePound();
        due("-1", x.thing(5, 1, 1, -1), -1);
        due("0", x.thing(5, 1, 40, 0), 0);
        due("99", x.thing(5, 1, 40, 99), 1);
        due("100", x.thing(5, 1, 1, 100), -1);
    }

    private static void stuffIsWhatAPoundCosts() {
        ByThePound x = new ByThePound();
        x.thing(5, 1, 40, 0);
        x.thing(5, 1, 40, 99);
        x.maker(1, 3, 0);
        x.offer(0, 0);
        x.put(0, 0, 40, 0);
        due("40 pounds of 0", x.of(0, 2), 0);
        x.put(0, 1, 1, 0);
        due("a pound of 99", x.of(0, 2), 99);
        x.put(0, 1, 40, 0);
        due("40 pounds of 99 more", x.of(0, 2), 99 + 3960);
    }

    private static void makers() {
        ByThePound x = new ByThePound();
        due("none yet", x.about(1), 0);
        for (int i = 0; i <= 5; i++) {
            due("maker " + i, x.maker(10, 1, 1), i);
        }
        due("a seventh", x.maker(10, 1, 1), -1);
        due("makers", x.about(1), 6);
    }

    private static void makersOneByOne() {
        ByThePound x = new ByThePound();
        due("refused", x.maker(-1, 1, 1), -1);
        due("the first, as a refused one has no number", x.maker(10, 1, 1), 0);
        due("the same again", x.maker(10, 1, 1), 1);
        due("makers", x.about(1), 2);
    }

    private static void hours() {
        ByThePound x = new ByThePound();
        due("-1", x.maker(-1, 0, 0), -1);
        due("0", x.maker(0, 0, 0), 0);
        due("9999", x.maker(9999, 0, 0), 1);
        due("10000", x.maker(10000, 0, 0), -1);
        x.year();
        due("0 left", x.told(1, 0), 0);
        due("9999 left", x.told(1, 1), 9999);
    }

    private static void hoursAYear() {
        ByThePound x = new ByThePound();
        x.thing(5, 1, 40, 0);
        x.maker(3, 1, 0);
        x.buyer(9, 0, 5, 9);
        x.offer(0, 0);
        x.put(0, 0, 1, 0);
        due("as many as hours", x.year(), 3);
        due("no hours left", x.told(1, 0), 0);
        due("a year later, as many again", x.year(), 3);
    }

    private static void crafts() {
        ByThePound x = new ByThePound();
        due("thing", x.thing(5, 1, 9, 0), 0);
        due("crafts that aren't told", x.maker(9, 1 << 1, 0), 0);
        due("none", x.maker(9, 0, 0), 1);
        due("all", x.maker(9, 1023, 0), 2);
        for (int maker = 0; maker < 3; maker++) {
            x.offer(maker, 0);
        }
        due("not told yet", x.put(0, 1, 1, 0), -1);
        due("no craft of his", x.put(0, 0, 1, 0), -1);
        due("no craft at all", x.put(1, 0, 1, 0), -1);
        due("one of all", x.put(2, 0, 1, 0), 1);
        x.thing(5, 1, 9, 0);
        due("told now", x.put(0, 1, 1, 0), 1);
        due("no craft at all", x.put(1, 1, 1, 0), -1);
        for (int i = 2; i <= 9; i++) {
            due("not told yet", x.put(2, i, 1, 0), -1);
            x.thing(5, 1, 9, 0);
        }
        due("the last of all", x.put(2, 9, 1, 0), 2);
        due("not the last", x.maker(9, 511, 0), 3);
        due("the last alone", x.maker(9, 512, 0), 4);
        x.offer(3, 0);
        x.offer(4, 0);
        due("not the last", x.put(3, 9, 1, 0), -1);
        due("the one ahead", x.put(3, 8, 1, 0), 1);
        due("the last alone", x.put(4, 9, 1, 0), 1);
        due("not the one ahead", x.put(4, 8, 1, 0), -1);
    }

    private static void wage() {
        ByThePound x = new ByThePound();
        due("-1", x.maker(1, 0, -1), -1);
        due("0", x.maker(1, 0, 0), 0);
        due("99", x.maker(1, 0, 99), 1);
        due("100", x.maker(1, 0, 100), -1);
    }

    private static void wageAnHour() {
        ByThePound x = new ByThePound();
        x.thing(5, 1, 40, 0);
        x.maker(1, 1, 99);
        x.offer(0, 0);
        x.put(0, 0, 3, 0);
        due("an hour", x.of(0, 2), 99);
        x.put(0, 0, 4, 0);
        due("two hours more", x.of(0, 2), 99 * 3);
    }

    private static void buyers() {
        ByThePound x = Says.small();
        due("none yet", x.about(2), 0);
        for (int i = 0; i <= 9; i++) {
            due("buyer " + i, x.buyer(1, 0, 0, 1), i);
        }
        due("an eleventh", x.buyer(1, 0, 0, 1), -1);
        due("buyers", x.about(2), 10);
    }

    private static void buyersOneByOne() {
        ByThePound x = Says.small();
        due("refused", x.buyer(0, 0, 0, 1), -1);
        due("the first, as a refused one has no number", x.buyer(1, 0, 0, 1), 0);
        due("the same again", x.buyer(1, 0, 0, 1), 1);
        due("buyers", x.about(2), 2);
    }

    private static void many() {
        ByThePound x = Says.small();
        due("0", x.buyer(0, 0, 0, 1), -1);
        due("1", x.buyer(1, 0, 0, 1), 0);
        due("999", x.buyer(999, 0, 0, 1), 1);
        due("1000", x.buyer(1000, 0, 0, 1), -1);
        x.year();
        due("one lacks", x.told(2, 0), 1);
        due("999 lack", x.told(2, 1), 999);
    }

    private static void want() {
        ByThePound x = new ByThePound();
        due("none is told", x.buyer(1, 0, 0, 1), -1);
        x.thing(1, 1, 1, 0);
        due("-1", x.buyer(1, -1, 0, 1), -1);
        due("0", x.buyer(1, 0, 0, 1), 0);
        due("1 isn't told", x.buyer(1, 1, 0, 1), -1);
        x.thing(1, 1, 1, 0);
        due("1 is told now", x.buyer(1, 1, 0, 1), 1);
        due("what he wants", x.about(111), 1);
        due("2 isn't told", x.buyer(1, 2, 0, 1), -1);
    }

    private static void taste() {
        ByThePound x = Says.small();
        due("-1", x.buyer(1, 0, -1, 1), -1);
        due("0", x.buyer(1, 0, 0, 1), 0);
        due("99", x.buyer(1, 0, 99, 1), 1);
        due("100", x.buyer(1, 0, 100, 1), -1);
    }

    private static void carry() {
        ByThePound x = Says.small();
        due("0", x.buyer(1, 0, 0, 0), -1);
        due("1", x.buyer(1, 0, 0, 1), 0);
        due("99", x.buyer(1, 0, 0, 99), 1);
        due("100", x.buyer(1, 0, 0, 100), -1);
    }

    private static void carryPounds() {
        ByThePound x = Says.small();
        x.buyer(1, 1, 99, 1);
        x.buyer(1, 1, 99, 2);
        x.offer(0, 0);
        x.put(0, 1, 1, 0);
        due("a pound", x.likes(0), 0);
        x.put(0, 1, 1, 0);
        due("two pounds are too many", x.likes(0), -1);
        due("not for the other", x.likes(1), 0);
    }

    private static void houses() {
        ByThePound x = Says.small();
        due("-1", x.house(-1, 100), false);
        due("4", x.house(4, 100), false);
        due("no offer at -1", x.offer(0, -1), -1);
        due("no offer at 4", x.offer(0, 4), -1);
        for (int house = 0; house <= 3; house++) {
            due("house " + house, x.house(house, 60 + house), true);
            due("an offer there", x.offer(0, house), house);
            due("its percent", x.about(10 + house), 60 + house);
        }
    }

    private static void percent() {
        ByThePound x = new ByThePound();
        due("49", x.house(2, 49), false);
        due("it stays", x.about(12), 100);
        due("50", x.house(2, 50), true);
        due("it is so", x.about(12), 50);
        due("150", x.house(2, 150), true);
        due("it is so", x.about(12), 150);
        due("151", x.house(2, 151), false);
        due("it stays", x.about(12), 150);
        due("the others stay", x.about(11) + x.about(13), 200);
    }

    private static void percentAtFirst() {
        ByThePound x = Says.small();
        for (int house = 0; house <= 3; house++) {
            due("house " + house, x.about(10 + house), 100);
            x.offer(0, house);
            x.put(house, 0, 7, 0);
            due("weighed there", x.of(house, 1), 7);
        }
    }

    private static void offers() {
        ByThePound x = Says.small();
        due("none yet", x.about(3), 0);
        for (int i = 0; i <= 19; i++) {
            due("offer " + i, x.offer(0, i % 4), i);
        }
        due("a 21st", x.offer(0, 0), -1);
        due("offers", x.about(3), 20);
        due("the last takes an item", x.put(19, 0, 2, 0), 1);
        due("there is none behind it", x.put(20, 0, 2, 0), -1);
    }

    private static void offersOneByOne() {
        ByThePound x = Says.small();
        due("refused", x.offer(0, 4), -1);
        due("the first, as a refused one has no number", x.offer(0, 0), 0);
        due("the same again", x.offer(0, 0), 1);
        x.drop(1);
        due("one that is dropped stays", x.offer(0, 0), 2);
    }

    private static void ofAMakerAtAHouse() {
        ByThePound x = Says.small();
        due("no maker 1 yet", x.offer(1, 0), -1);
        due("no maker -1", x.offer(-1, 0), -1);
        x.maker(10, 3, 5);
        due("maker 1 now", x.offer(1, 0), 0);
        due("maker 2 isn't there", x.offer(2, 0), -1);
        due("another's", x.offer(0, 3), 1);
        x.house(3, 50);
        x.put(0, 1, 2, 0);
        x.put(1, 1, 2, 0);
        due("by the one's wage", x.of(0, 2), 5);
        due("by the other's wage", x.of(1, 2), 0);
        due("by the one's scales", x.of(0, 1), 2);
        due("by the other's scales", x.of(1, 1), 1);
    }

    private static void items() {
        ByThePound x = Says.small();
        x.offer(0, 0);
        x.offer(0, 0);
        for (int i = 1; i <= 3; i++) {
            due("item " + i, x.put(0, 1, i, 0), i);
        }
        due("a fourth", x.put(0, 1, 1, 0), -1);
        due("items", x.of(0, 6), 3);
        due("the third", x.of(0, 22), 3);
        due("the other has none", x.of(1, 6), 0);
        due("and takes one", x.put(1, 1, 1, 0), 1);
    }

    private static void aThingOfHisCrafts() {
        ByThePound x = Says.small();
        x.maker(10, 2, 0);
        x.offer(1, 0);
        due("not of his crafts", x.put(0, 0, 2, 0), -1);
        due("of his crafts", x.put(0, 1, 2, 0), 1);
        due("no thing", x.put(0, -1, 2, 0), -1);
        due("a thing by the bits of 33", x.put(0, 33, 2, 0), -1);
        due("no thing 2", x.put(0, 2, 2, 0), -1);
    }

    private static void weight() {
        ByThePound x = Says.small();
        x.offer(0, 0);
        due("least less one", x.put(0, 1, 0, 0), -1);
        due("least", x.put(0, 1, 1, 0), 1);
        due("most", x.put(0, 1, 3, 0), 2);
        due("most and one", x.put(0, 1, 4, 0), -1);
        due("the other thing's most", x.put(0, 0, 8, 0), 3);
    }

    private static void water() {
        ByThePound x = Says.small();
        Says.rule(x, "wet 50;");
        x.offer(0, 0);
        due("-1", x.put(0, 0, 8, -1), -1);
        due("0", x.put(0, 0, 8, 0), 1);
        due("9", x.put(0, 0, 8, 9), 2);
        due("10", x.put(0, 0, 8, 10), -1);
        due("in pounds", x.of(0, 3), 8 + 8 + 9);
        due("each item's", x.of(0, 30), 0);
        due("each item's", x.of(0, 31), 9);
    }

    private static void waterNotAboveWet() {
        ByThePound x = Says.small();
        x.offer(0, 0);
        due("none is wet", x.put(0, 0, 4, 1), -1);
        Says.rule(x, "wet weight - thing;");
        due("one above", x.put(0, 0, 4, 5), -1);
        due("as much", x.put(0, 0, 4, 4), 1);
        due("another thing: one above", x.put(0, 1, 3, 3), -1);
        due("another thing: as much", x.put(0, 1, 3, 2), 2);
        x.by(-1);
        due("none is wet again", x.put(0, 1, 3, 1), -1);
        due("dry", x.put(0, 1, 3, 0), 3);
    }

    private static void due(String call, long got, long want) {
        Says.due(call, got, want);
    }

    private static void due(String call, boolean got, boolean want) {
        Says.due(call, got, want);
    }

    static void all() {
        Says.says("I", "THINGS 0 .. 9", ThingSentences::things);
        Says.says("I", "THINGS 0 .. 9 (told one by one)", ThingSentences::thingsOneByOne);
        Says.says("I", "SIZE (1 .. 99)", ThingSentences::size);
        Says.says("I", "LEAST and MOST (1 .. 40", ThingSentences::leastAndMost);
        Says.says("I", "LEAST not above MOST)", ThingSentences::leastNotAboveMost);
        Says.says("I", "its weights in pounds", ThingSentences::itsWeights);
        Says.says("I", "STUFF (0 .. 99)", ThingSentences::stuff);
        Says.says("I", "what a pound of it costs", ThingSentences::stuffIsWhatAPoundCosts);
        Says.says("I", "MAKERS 0 .. 5", ThingSentences::makers);
        Says.says("I", "MAKERS 0 .. 5 (told one by one)", ThingSentences::makersOneByOne);
        Says.says("I", "HOURS (0 .. 9999", ThingSentences::hours);
        Says.says("I", "HOURS (0 .. 9999 a YEAR)", ThingSentences::hoursAYear);
        Says.says("I", "CRAFTS (a set of THINGS, as bits, told or not)", ThingSentences::crafts);
        Says.says("I", "WAGE (0 .. 99", ThingSentences::wage);
        Says.says("I", "WAGE (0 .. 99 an hour)", ThingSentences::wageAnHour);
        Says.says("I", "BUYERS 0 .. 9", ThingSentences::buyers);
        Says.says("I", "BUYERS 0 .. 9 (told one by one)", ThingSentences::buyersOneByOne);
        Says.says("I", "MANY (1 .. 999 people)", ThingSentences::many);
        Says.says("I", "WANT (a THING that is told)", ThingSentences::want);
        Says.says("I", "TASTE (0 .. 99)", ThingSentences::taste);
        Says.says("I", "CARRY (1 .. 99", ThingSentences::carry);
        Says.says("I", "CARRY (1 .. 99 pounds)", ThingSentences::carryPounds);
        Says.says("I", "HOUSES 0 .. 3", ThingSentences::houses);
        Says.says("I", "PERCENT (50 .. 150", ThingSentences::percent);
        Says.says("I", "at first 100)", ThingSentences::percentAtFirst);
        Says.says("I", "OFFERS 0 .. 19", ThingSentences::offers);
        Says.says("I", "OFFERS 0 .. 19 (told one by one)", ThingSentences::offersOneByOne);
        Says.says("I", "of a MAKER at a HOUSE", ThingSentences::ofAMakerAtAHouse);
        Says.says("I", "up to 3 ITEMS", ThingSentences::items);
        Says.says("I", "a THING of the MAKER's CRAFTS", ThingSentences::aThingOfHisCrafts);
        Says.says("I", "WEIGHT (LEAST .. MOST)", ThingSentences::weight);
        Says.says("I", "WATER (0 .. 9 pounds", ThingSentences::water);
        Says.says("I", "not above WET of it)", ThingSentences::waterNotAboveWet);
    }
}
