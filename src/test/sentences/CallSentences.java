/** Promises 1 to 14, sentence by sentence. */
final class CallSentences {
    private static final int LOW = Integer.MIN_VALUE;
    private static final int HIGH = Integer.MAX_VALUE;

    private CallSentences() {
    }

    // ---- 1: a new object

    private static void nothingIsThere() {
        ByThePound x = new ByThePound();
        for (int what = 0; what <= 4; what++) {
            due("about " + what, x.about(what), 0);
        }
        due("no thing", x.never(0), -1);
        due("no maker", x.offer(0, 0), -1);
        due("no buyer", x.likes(0), -1);
        due("no offer", x.of(0, 6), -1);
        due("no text", x.by(0), false);
        due("a year of nothing", x.year(), 0);
        due("one more isn't the same", Says.small().about(0), 2);
        due("it stays without", x.about(0), 0);
    }

    private static void theImageIsThis() {
        ByThePound x = new ByThePound();
        due("back at once", x.back(), 0);
        ByThePound y = Says.shop();
        due("back", y.back(), 0);
        for (int what = 0; what <= 6; what++) {
            due("about " + what, y.about(what), what == 5 ? -1 : 0);
        }
        due("the tape stays", y.about(7), 20);
        for (int house = 0; house <= 3; house++) {
            due("percent", y.about(10 + house), 100);
        }
        due("net", y.net(0), 0);
        due("the first thing", y.thing(1, 1, 1, 1), 0);
        due("the first maker", y.maker(1, 1, 1), 0);
        due("nothing is told of him", y.told(0, 0), 0);
    }

    // ---- 2: thing

    private static void thingItsNumber() {
        ByThePound x = new ByThePound();
        due("the first", x.thing(1, 1, 1, 0), 0);
        due("the second", x.thing(99, 40, 40, 99), 1);
        due("things", x.about(0), 2);
        ByThePound y = Says.shop();
        due("the fourth", y.thing(1, 1, 1, 0), 3);
    }

    private static void thingOthers() {
        Says.refused(Says::shop, "thing", -1,
            x -> x.thing(0, 1, 1, 0), x -> x.thing(100, 1, 1, 0), x -> x.thing(LOW, 1, 1, 0), x -> x.thing(HIGH, 1, 1, 0),
            x -> x.thing(1, 0, 1, 0), x -> x.thing(1, 41, 41, 0), x -> x.thing(1, LOW, 1, 0), x -> x.thing(1, HIGH, HIGH, 0),
            x -> x.thing(1, 1, 41, 0), x -> x.thing(1, 2, 1, 0), x -> x.thing(1, 1, 0, 0), x -> x.thing(1, 1, HIGH, 0), x -> x.thing(1, 1, LOW, 0),
            x -> x.thing(1, 1, 1, -1), x -> x.thing(1, 1, 1, 100), x -> x.thing(1, 1, 1, LOW), x -> x.thing(1, 1, 1, HIGH));
    }

    private static ByThePound tenThings() {
        ByThePound x = new ByThePound();
        for (int i = 0; i < 10; i++) {
            due("thing", x.thing(9, 1, 1, 0), i);
        }
        return x;
    }

    private static void thingIfThereAre10() {
        Says.refused(CallSentences::tenThings, "thing", -1, x -> x.thing(1, 1, 1, 0), x -> x.thing(99, 40, 40, 99), x -> x.thing(0, 0, 0, 0));
    }

    // ---- 3: maker

    private static void makerHisNumber() {
        ByThePound x = new ByThePound();
        due("the first", x.maker(0, 0, 0), 0);
        due("the second", x.maker(9999, 1023, 99), 1);
        due("makers", x.about(1), 2);
        due("the third", Says.shop().maker(5, 5, 5), 2);
    }

    private static void makerOthers() {
        Says.refused(Says::shop, "maker", -1,
            x -> x.maker(-1, 0, 0), x -> x.maker(10000, 0, 0), x -> x.maker(LOW, 0, 0), x -> x.maker(HIGH, 0, 0),
            x -> x.maker(0, 0, -1), x -> x.maker(0, 0, 100), x -> x.maker(0, 0, LOW), x -> x.maker(0, 0, HIGH));
    }

    private static void makerCrafts() {
        ByThePound x = new ByThePound();
        due("0", x.maker(0, 0, 0), 0);
        due("1023", x.maker(0, 1023, 0), 1);
        due("512", x.maker(0, 512, 0), 2);
        Says.refused(Says::shop, "maker", -1, y -> y.maker(0, -1, 0), y -> y.maker(0, 1024, 0), y -> y.maker(0, 1025, 0), y -> y.maker(0, LOW, 0), y -> y.maker(0, HIGH, 0));
    }

    private static ByThePound sixMakers() {
        ByThePound x = new ByThePound();
        for (int i = 0; i < 6; i++) {
            due("maker", x.maker(9, 1, 1), i);
        }
        return x;
    }

    private static void makerIfThereAre6() {
        Says.refused(CallSentences::sixMakers, "maker", -1, x -> x.maker(0, 0, 0), x -> x.maker(9999, 1023, 99), x -> x.maker(-1, 0, 0));
    }

    // ---- 4: buyer

    private static void buyerHisNumber() {
        ByThePound x = Says.small();
        due("the first", x.buyer(1, 0, 0, 1), 0);
        due("the second", x.buyer(999, 1, 99, 99), 1);
        due("buyers", x.about(2), 2);
        due("the third", Says.shop().buyer(5, 2, 5, 5), 2);
    }

    private static void buyerOthers() {
        Says.refused(Says::shop, "buyer", -1,
            x -> x.buyer(0, 0, 0, 1), x -> x.buyer(1000, 0, 0, 1), x -> x.buyer(LOW, 0, 0, 1), x -> x.buyer(HIGH, 0, 0, 1),
            x -> x.buyer(1, -1, 0, 1), x -> x.buyer(1, 3, 0, 1), x -> x.buyer(1, LOW, 0, 1), x -> x.buyer(1, HIGH, 0, 1),
            x -> x.buyer(1, 0, -1, 1), x -> x.buyer(1, 0, 100, 1), x -> x.buyer(1, 0, LOW, 1), x -> x.buyer(1, 0, HIGH, 1),
            x -> x.buyer(1, 0, 0, 0), x -> x.buyer(1, 0, 0, 100), x -> x.buyer(1, 0, 0, LOW), x -> x.buyer(1, 0, 0, HIGH));
        Says.refused(ByThePound::new, "buyer without things", -1, x -> x.buyer(1, 0, 0, 1));
    }

    private static ByThePound tenBuyers() {
        ByThePound x = Says.small();
        for (int i = 0; i < 10; i++) {
            due("buyer", x.buyer(9, 1, 1, 1), i);
        }
        return x;
    }

    private static void buyerIfThereAre10() {
        Says.refused(CallSentences::tenBuyers, "buyer", -1, x -> x.buyer(1, 0, 0, 1), x -> x.buyer(999, 1, 99, 99), x -> x.buyer(0, 0, 0, 0));
    }

    // ---- 5: house

    private static void percentOfAHouse() {
        ByThePound x = Says.shop();
        due("50 at 0", x.house(0, 50), true);
        due("150 at 3", x.house(3, 150), true);
        due("of 0", x.about(10), 50);
        due("of 1", x.about(11), 150);
        due("of 2", x.about(12), 100);
        due("of 3", x.about(13), 150);
        due("the same again", x.house(3, 150), true);
        due("another", x.house(3, 149), true);
        due("of 3", x.about(13), 149);
    }

    private static void houseOthers() {
        Says.refused(Says::shop, "house", 0,
            x -> Says.bit(x.house(-1, 100)), x -> Says.bit(x.house(4, 100)), x -> Says.bit(x.house(LOW, 100)), x -> Says.bit(x.house(HIGH, 100)),
            x -> Says.bit(x.house(0, 49)), x -> Says.bit(x.house(0, 151)), x -> Says.bit(x.house(0, LOW)), x -> Says.bit(x.house(0, HIGH)),
            x -> Says.bit(x.house(3, 49)), x -> Says.bit(x.house(3, 151)), x -> Says.bit(x.house(4, 151)));
    }

    // ---- 6: offer

    private static void offerItsNumber() {
        ByThePound x = Says.shop();
        due("the third", x.offer(1, 3), 2);
        due("the fourth", x.offer(0, 0), 3);
        due("offers", x.about(3), 4);
        due("it is sold by its maker: what he makes", x.put(2, 2, 1, 0), 1);
    }

    private static void offerWithoutItems() {
        ByThePound x = Says.shop();
        x.best(0, 0, 0, 0);
        x.tied(0, 0, 1, 0);
        due("behind trials", x.offer(0, 0), 2);
        due("without items", x.of(2, 6), 0);
        due("no thing", x.of(2, 10), -1);
        due("hours", x.of(2, 0), 0);
        due("price", x.of(2, 1), 0);
        due("cost", x.of(2, 2), 0);
        due("load", x.of(2, 3), 0);
        due("lawful", x.of(2, 4), 1);
        due("sold", x.of(2, 5), 0);
        due("the first item", x.put(2, 0, 2, 0), 1);
    }

    private static void offerOthers() {
        Says.refused(Says::shop, "offer", -1,
            x -> x.offer(-1, 0), x -> x.offer(2, 0), x -> x.offer(LOW, 0), x -> x.offer(HIGH, 0),
            x -> x.offer(0, -1), x -> x.offer(0, 4), x -> x.offer(0, LOW), x -> x.offer(0, HIGH));
        Says.refused(ByThePound::new, "offer without makers", -1, x -> x.offer(0, 0));
    }

    private static ByThePound twentyOffers() {
        ByThePound x = Says.small();
        for (int i = 0; i < 20; i++) {
            due("offer", x.offer(0, i % 4), i);
        }
        return x;
    }

    private static void offerIfThereAre20() {
        Says.refused(CallSentences::twentyOffers, "offer", -1, x -> x.offer(0, 0), x -> x.offer(0, 3), x -> x.offer(1, 0));
    }

    // ---- 7: put

    private static void putHowMany() {
        ByThePound x = Says.shop();
        due("a third of the first", x.put(0, 1, 1, 3), 3);
        due("a second of the second", x.put(1, 2, 9, 0), 2);
        due("a third of the second", x.put(1, 2, 1, 0), 3);
        due("a first", x.put(x.offer(0, 2), 0, 8, 0), 1);
        due("thing", x.of(0, 12), 1);
        due("weight", x.of(0, 22), 1);
        due("water", x.of(0, 32), 3);
        due("those ahead stay", x.of(0, 20), 4);
        due("those ahead stay", x.of(0, 21), 2);
    }

    private static void putOthers() {
        Says.refused(Says::shop, "put", -1,
            x -> x.put(-1, 0, 4, 0), x -> x.put(2, 0, 4, 0), x -> x.put(LOW, 0, 4, 0), x -> x.put(HIGH, 0, 4, 0), x -> x.put(20, 0, 4, 0),
            x -> x.put(0, -1, 4, 0), x -> x.put(0, 3, 4, 0), x -> x.put(0, LOW, 4, 0), x -> x.put(0, HIGH, 4, 0), x -> x.put(0, 32, 4, 0),
            x -> x.put(0, 0, 1, 0), x -> x.put(0, 0, 9, 0), x -> x.put(0, 0, LOW, 0), x -> x.put(0, 0, HIGH, 0),
            x -> x.put(0, 1, 0, 0), x -> x.put(0, 1, 4, 0),
            x -> x.put(0, 0, 4, -1), x -> x.put(0, 0, 4, 4), x -> x.put(0, 0, 4, LOW), x -> x.put(0, 0, 4, HIGH));
    }

    private static void putNoCraftOfHis() {
        Says.refused(Says::shop, "put", -1,
            x -> x.put(0, 2, 4, 0), x -> x.put(1, 0, 4, 0), x -> x.put(1, 1, 2, 0), x -> x.put(1, 3, 2, 0), x -> x.put(1, 9, 2, 0));
        ByThePound x = Says.shop();
        due("his", x.put(1, 2, 4, 0), 2);
        x.thing(1, 1, 4, 0);
        due("his, now that it is told", x.put(1, 3, 4, 0), 3);
        x.drop(1);
        x.thing(1, 1, 4, 0);
        due("told now, but not his", x.put(1, 4, 4, 0), -1);
    }

    private static ByThePound threeItems() {
        ByThePound x = Says.shop();
        due("a third", x.put(0, 1, 1, 0), 3);
        return x;
    }

    private static void putIfThereAre3() {
        Says.refused(CallSentences::threeItems, "put", -1, x -> x.put(0, 0, 4, 0), x -> x.put(0, 1, 1, 3), x -> x.put(0, 2, 4, 0));
        ByThePound x = threeItems();
        due("the other has room", x.put(1, 2, 4, 0), 2);
        x.drop(0);
        due("room again", x.put(0, 0, 4, 0), 1);
    }

    // ---- 8: drop

    private static void dropHowMany() {
        ByThePound x = threeItems();
        due("three", x.drop(0), 3);
        due("none", x.drop(0), 0);
        due("the other's one", x.drop(1), 1);
        due("of one that never had any", x.drop(x.offer(0, 0)), 0);
    }

    private static void dropNoItems() {
        ByThePound x = Says.shop();
        x.drop(0);
        due("items", x.of(0, 6), 0);
        due("thing", x.of(0, 10), -1);
        due("weight", x.of(0, 20), -1);
        due("water", x.of(0, 30), -1);
        due("the offer stays", x.about(3), 2);
        due("the other stays", x.of(1, 6), 1);
        due("sold in the latest year stays", x.of(0, 5), 10);
        due("the maker stays: no other's craft", x.put(0, 2, 4, 0), -1);
        due("his own", x.put(0, 1, 3, 0), 1);
    }

    private static void dropOthers() {
        Says.refused(Says::shop, "drop", -1, x -> x.drop(-1), x -> x.drop(2), x -> x.drop(20), x -> x.drop(LOW), x -> x.drop(HIGH));
        Says.refused(ByThePound::new, "drop without offers", -1, x -> x.drop(0));
    }

    // ---- 9: feed

    private static void twentyBytes() {
        ByThePound x = new ByThePound();
        due("twenty", x.feed(0x70726963, 0x65202020, 0x20202020, 0x20202020, 0x20202020), 20);
        due("twenty behind", x.feed(0x20202020, 0x20202020, 0x20202020, 0x20202031, 0x32333420), 40);
        due("behind what was cut", x.end(36), 36);
        due("a third", x.feed(0x3b20776f, 0x72746820, 0x3b202020, 0x20202020, 0x20202020), 56);
        due("a fault", x.text(), -1);
        due("at worth's semicolon", x.fault(1), 44);
        due("1", x.fault(0), 1);
    }

    private static void theHighestOfAFirst() {
        ByThePound x = new ByThePound();
        x.feed(0x77657420, 0x33203b20, 0x70726963, 0x65203b24, 0x20202020);
        due("wet 3 ; price ;", x.text(), -1);
        due("at the byte 14", x.fault(1), 14);
        for (int i = 0; i < 20; i++) {
            ByThePound y = new ByThePound();
            int[] w = {0x20202020, 0x20202020, 0x20202020, 0x20202020, 0x20202020};
            w[i / 4] = w[i / 4] & ~(255 << 24 - i % 4 * 8) | 36 << 24 - i % 4 * 8;
            y.feed(w[0], w[1], w[2], w[3], w[4]);
            due("a fault", y.text(), -1);
            due("at the byte " + i, y.fault(1), i);
        }
        ByThePound z = new ByThePound();
        z.feed(0x20202020, 0xff202020, 0x20202020, 0x20202020, 0x20202020);
        z.text();
        due("a byte of 255", z.fault(1), 4);
    }

    private static void howManyTheTapeHas() {
        ByThePound x = new ByThePound();
        for (int i = 1; i <= 15; i++) {
            due("feed", x.feed(0, 0, 0, 0, 0), 20 * i);
            due("tape", x.about(7), 20 * i);
        }
        x.end(7);
        due("seven and twenty", x.feed(LOW, HIGH, -1, 0, 1), 27);
    }

    private static void moreThan300() {
        ByThePound x = new ByThePound();
        for (int i = 1; i <= 14; i++) {
            x.feed(0x20202020, 0x20202020, 0x20202020, 0x20202020, 0x20202020);
        }
        due("cut", x.end(279), 279);
        due("299", x.feed(0x20202020, 0x20202020, 0x20202020, 0x20202020, 0x20202020), 299);
        due("319", x.feed(36 << 24, 0, 0, 0, 0), -1);
        due("none come", x.about(7), 299);
        due("cut", x.end(281), 281);
        due("301", x.feed(36 << 24, 0, 0, 0, 0), -1);
        due("none come", x.about(7), 281);
        due("cut", x.end(280), 280);
        due("300", x.feed(0x20202020, 0x20202020, 0x20202020, 0x20202020, 0x20202020), 300);
        due("320", x.feed(36 << 24, 0, 0, 0, 0), -1);
        due("none come", x.about(7), 300);
        due("blanks alone", x.text(), 0);
        due("room again", x.feed(0, 0, 0, 0, 0), 20);
    }

    // ---- 10: end

    private static void itsFirstBytesAlone() {
        ByThePound x = new ByThePound();
        x.feed(0x77657420, 0x333b2424, 0x24242424, 0x24242424, 0x24242424);
        due("all", x.end(20), 20);
        due("nineteen", x.end(19), 19);
        due("six", x.end(6), 6);
        due("tape", x.about(7), 6);
        due("wet 3;", x.text(), 0);
        due("none of none", x.end(0), 0);
        x.feed(0x77657420, 0x333b2424, 0x24242424, 0x24242424, 0x24242424);
        due("none", x.end(0), 0);
        due("tape", x.about(7), 0);
        due("nothing", x.text(), 1);
    }

    private static void notSoMany() {
        Says.refused(Says::shop, "end", -1, x -> x.end(21), x -> x.end(300), x -> x.end(HIGH));
        Says.refused(ByThePound::new, "end", -1, x -> x.end(1), x -> x.end(20));
        ByThePound x = Says.shop();
        x.end(5);
        due("what is gone is gone", x.end(6), -1);
        due("five", x.end(5), 5);
    }

    private static void endBelow0() {
        Says.refused(Says::shop, "end", -1, x -> x.end(-1), x -> x.end(LOW));
        Says.refused(ByThePound::new, "end", -1, x -> x.end(-1));
    }

    // ---- 11: text

    private static void theTapeIsAText() {
        ByThePound x = Says.shop();
        due("blanks: the third", x.text(), 2);
        due("empty then", x.about(7), 0);
        due("of nothing: the fourth", x.text(), 3);
        due("texts", x.about(4), 4);
        due("THE TEXT stays", x.about(5), 1);
        due("the sixth, behind the fifth", Says.read(x, "price 7;") + Says.read(x, "price 8;"), 4 + 5);
        x.by(4);
        due("by the fifth", x.of(0, 1), 14);
        x.by(5);
        due("by the sixth", x.of(0, 1), 16);
        x.by(3);
        due("by the fourth", x.of(0, 1), 9);
    }

    private static void itHasAFault() {
        ByThePound x = Says.shop();
        Says.feed(x, "price 7");
        due("a fault", x.text(), -1);
        due("empty then, too", x.about(7), 0);
        due("texts", x.about(4), 2);
        due("price", x.of(0, 1), 12);
        due("the next is the third", Says.read(x, "price 7;"), 2);
        due("a fault", Says.read(x, "price 8; wet 1; wet"), -1);
        x.by(2);
        due("it stays as it is", x.of(0, 1), 14);
        due("the next is the fourth", Says.read(x, "price 9;"), 3);
    }

    /** What was read of a faulty text leaves nothing behind, however long it was. */
    private static void aFaultyTextLeavesNothing() {
        ByThePound x = Says.sixPounds();
        String most = "1" + "+1".repeat(145);
        for (int i = 0; i < 3; i++) {
            due("a fault", Says.read(x, "worth " + most + ";$"), -1);
        }
        due("without one", Says.read(x, "worth " + most + ";"), 0);
        x.by(0);
        due("all of it counts", x.worth(0, 0), 146);
        x.back();
        ByThePound y = Says.sixPounds();
        due("bars, but faulty", Says.read(y, "bars 1=1; wet 5; wet 5;"), -1);
        due("without one", Says.read(y, "price 6;"), 0);
        y.by(0);
        due("it isn't barred", y.of(0, 4), 1);
        due("it isn't wet", y.put(0, 0, 6, 1), -1);
        y.image();
        due("another", Says.read(y, "price 5; bars 1=1;"), 1);
        y.back();
        due("in its place", Says.read(y, "worth 33;"), 1);
        y.by(1);
        due("it isn't barred", y.of(0, 4), 1);
        due("price", y.of(0, 1), 9);
        due("worth", y.worth(0, 0), 33);
    }

    private static void thereAre6() {
        ByThePound x = Says.shop();
        x.end(0);
        for (int i = 2; i <= 5; i++) {
            due("text", Says.read(x, "price 1" + i + ";"), i);
        }
        Says.feed(x, "price 77;");
        due("there are six", x.text(), -1);
        due("the tape stays", x.about(7), 9);
        due("texts", x.about(4), 6);
        due("the latest that was read had no fault", x.fault(0), 0);
        Says.feed(x, "$");
        due("there are six", x.text(), -1);
        due("the tape stays", x.about(7), 10);
        due("the latest that was read had no fault", x.fault(0), 0);
        x.by(5);
        due("the sixth stays", x.of(0, 1), 30);
        due("back", x.back(), 0);
        due("the tape is read now", x.text(), -1);
        due("its fault", x.fault(1), 9);
        due("empty then", x.about(7), 0);
    }

    // ---- 12: fault

    private static void ofTheLatestText() {
        ByThePound x = new ByThePound();
        Says.read(x, "price 10000;");
        due("2", x.fault(0), 2);
        due("at 6", x.fault(1), 6);
        Says.read(x, "wet wet;");
        due("1", x.fault(0), 1);
        due("at 4", x.fault(1), 4);
        Says.feed(x, "price 10000;");
        due("not read yet", x.fault(0), 1);
        due("not read yet", x.fault(1), 4);
        x.end(0);
        due("the first that has none", Says.read(x, "wet 1;"), 0);
        due("0", x.fault(0), 0);
        due("none", x.fault(1), -1);
        due("asked twice", x.fault(0), 0);
    }

    private static void itsFault() {
        String[] texts = {"", "price", "price 10000;", "price (((((((((1", "wet 1;wet", "price want;", "bars 1=1;".repeat(11)};
        for (int fault = 0; fault <= 6; fault++) {
            ByThePound x = new ByThePound();
            due("text", Says.read(x, texts[fault]), fault == 0 ? 0 : -1);
            due("fault", x.fault(0), fault);
        }
    }

    private static void itsPlace() {
        for (int i = 0; i <= 200; i += 25) {
            ByThePound x = new ByThePound();
            due("text", Says.read(x, " ".repeat(i) + "$"), -1);
            due("place", x.fault(1), i);
        }
        ByThePound x = new ByThePound();
        due("text", Says.read(x, "price 1;"), 0);
        due("without", x.fault(1), -1);
    }

    private static void faultOthers() {
        ByThePound x = new ByThePound();
        Says.read(x, "$");
        due("-1", x.fault(-1), -1);
        due("2", x.fault(2), -1);
        due("low", x.fault(LOW), -1);
        due("high", x.fault(HIGH), -1);
        due("0", x.fault(0), 1);
    }

    private static void faultAheadOfAny() {
        ByThePound x = new ByThePound();
        due("0", x.fault(0), -1);
        due("1", x.fault(1), -1);
        due("2", x.fault(2), -1);
        x.feed(0, 0, 0, 0, 0);
        due("fed, but not read", x.fault(0), -1);
        x.back();
        due("back", x.fault(0), -1);
        x.text();
        due("read", x.fault(0), 1);
    }

    // ---- 13: by

    private static void theText() {
        ByThePound x = Says.shop();
        for (int text = -1; text <= 1; text++) {
            due("by " + text, x.by(text), true);
            due("THE TEXT", x.about(5), text);
            due("again", x.by(text), true);
            due("price", x.of(0, 1), text == -1 ? 9 : text == 0 ? 10 : 12);
        }
        ByThePound y = new ByThePound();
        due("none, without texts", y.by(-1), true);
    }

    private static void byOthers() {
        Says.refused(Says::shop, "by", 0, x -> Says.bit(x.by(-2)), x -> Says.bit(x.by(2)), x -> Says.bit(x.by(6)), x -> Says.bit(x.by(LOW)), x -> Says.bit(x.by(HIGH)));
        Says.refused(ByThePound::new, "by", 0, x -> Says.bit(x.by(0)), x -> Says.bit(x.by(-2)));
    }

    // ---- 14: of

    private static void ofSums() {
        ByThePound x = Says.shop();
        Says.feed(x, "hours weight+size; price weight*2;");
        x.by(x.text());
        due("hours of 4 and 10, 2 and 20", x.of(0, 0), 36);
        due("price of 7 and 2", x.of(0, 1), 18);
        due("cost of 4 pounds of stuff 1 and no wage", x.of(0, 2), 4);
        due("load of 4 and 3 and 2", x.of(0, 3), 9);
        due("hours of 5 and 5", x.of(1, 0), 10);
        due("price of 6 * 1.5", x.of(1, 1), 18);
        due("cost of 10 hours", x.of(1, 2), 10);
        due("load of 5 and 1", x.of(1, 3), 6);
    }

    private static void ofLawful() {
        ByThePound x = Says.shop();
        x.end(0);
        due("lawful", x.of(0, 4), 1);
        due("lawful", x.of(1, 4), 1);
        Says.rule(x, "bars size=20;");
        due("not lawful for its second item", x.of(0, 4), 0);
        due("lawful", x.of(1, 4), 1);
    }

    private static void ofSold() {
        ByThePound x = Says.shop();
        due("ten", x.of(0, 5), 10);
        due("four", x.of(1, 5), 4);
        x.drop(0);
        due("of the latest year", x.of(0, 5), 10);
        due("a year", x.year(), 4);
        due("none", x.of(0, 5), 0);
        due("told behind it", x.of(x.offer(0, 0), 5), 0);
        due("four", x.of(1, 5), 4);
        due("ahead of any", Says.sixPounds().of(0, 5), 0);
    }

    private static void ofItems() {
        ByThePound x = threeItems();
        due("three", x.of(0, 6), 3);
        due("one", x.of(1, 6), 1);
        int[][] told = {{0, 1, 1}, {4, 2, 1}, {3, 0, 0}};
        for (int k = 0; k < 3; k++) {
            for (int i = 0; i < 3; i++) {
                due("of the " + i + "th: " + k, x.of(0, 10 * (k + 1) + i), told[k][i]);
            }
            due("of one there is none", x.of(1, 10 * (k + 1) + 1), -1);
            due("of one there is none", x.of(1, 10 * (k + 1) + 2), -1);
            due("of a fourth", x.of(0, 10 * (k + 1) + 3), -1);
            due("of a tenth", x.of(0, 10 * (k + 1) + 9), -1);
        }
        due("the other's", x.of(1, 10), 2);
        due("the other's", x.of(1, 20), 5);
        due("the other's", x.of(1, 30), 1);
    }

    private static void ofOthers() {
        int[] whats = {LOW, -10, -1, 7, 8, 9, 13, 19, 23, 29, 33, 39, 40, 41, 42, 100, HIGH};
        ByThePound x = threeItems();
        for (int what : whats) {
            due("of(0, " + what + ")", x.of(0, what), -1);
        }
        int[] offers = {LOW, -1, 2, 19, 20, 21, 22, HIGH};
        for (int offer : offers) {
            for (int what = 0; what <= 6; what++) {
                due("of(" + offer + ", " + what + ")", x.of(offer, what), -1);
            }
            due("of(" + offer + ", 10)", x.of(offer, 10), -1);
        }
        Says.refused(Says::shop, "of", -1, y -> y.of(2, 0), y -> y.of(0, 7));
    }

    private static void due(String call, long got, long want) {
        Says.due(call, got, want);
    }

    private static void due(String call, boolean got, boolean want) {
        Says.due(call, got, want);
    }

    private static void told() {
        Says.says("1", "No THINGS, MAKERS, BUYERS, OFFERS, TEXTS", CallSentences::nothingIsThere);
        Says.says("1", "THE IMAGE is this.", CallSentences::theImageIsThis);
        Says.says("2", "A THING: its number.", CallSentences::thingItsNumber);
        Says.says("2", "NONE for others", CallSentences::thingOthers);
        Says.says("2", "or if there are 10.", CallSentences::thingIfThereAre10);
        Says.says("3", "A MAKER: his number.", CallSentences::makerHisNumber);
        Says.says("3", "NONE for others", CallSentences::makerOthers);
        Says.says("3", "NONE for others (crafts 0 .. 1023)", CallSentences::makerCrafts);
        Says.says("3", "or if there are 6.", CallSentences::makerIfThereAre6);
        Says.says("4", "A BUYER: his number.", CallSentences::buyerHisNumber);
        Says.says("4", "NONE for others", CallSentences::buyerOthers);
        Says.says("4", "or if there are 10.", CallSentences::buyerIfThereAre10);
        Says.says("5", "PERCENT of a HOUSE: true.", CallSentences::percentOfAHouse);
        Says.says("5", "False for others.", CallSentences::houseOthers);
    }

    private static void offered() {
        Says.says("6", "An OFFER without ITEMS: its number.", CallSentences::offerItsNumber);
        Says.says("6", "An OFFER without ITEMS", CallSentences::offerWithoutItems);
        Says.says("6", "NONE for others", CallSentences::offerOthers);
        Says.says("6", "or if there are 20.", CallSentences::offerIfThereAre20);
        Says.says("7", "An ITEM more of an OFFER: how many it has.", CallSentences::putHowMany);
        Says.says("7", "NONE for others", CallSentences::putOthers);
        Says.says("7", "a THING that isn't of the MAKER's CRAFTS", CallSentences::putNoCraftOfHis);
        Says.says("7", "or if there are 3.", CallSentences::putIfThereAre3);
        Says.says("8", "An OFFER has no ITEMS: how many it had.", CallSentences::dropHowMany);
        Says.says("8", "An OFFER has no ITEMS", CallSentences::dropNoItems);
        Says.says("8", "NONE for others.", CallSentences::dropOthers);
    }

    private static void read() {
        Says.says("9", "Twenty bytes come behind the tape", CallSentences::twentyBytes);
        Says.says("9", "the highest of a first", CallSentences::theHighestOfAFirst);
        Says.says("9", "how many it has.", CallSentences::howManyTheTapeHas);
        Says.says("9", "NONE, and none come, if there would be more than 300.", CallSentences::moreThan300);
        Says.says("10", "The tape has its first n bytes alone: n.", CallSentences::itsFirstBytesAlone);
        Says.says("10", "NONE, and nothing is done, if it has not so many", CallSentences::notSoMany);
        Says.says("10", "or n is below 0.", CallSentences::endBelow0);
        Says.says("11", "The tape (empty then) is a TEXT: its number.", CallSentences::theTapeIsAText);
        Says.says("11", "NONE: it has a FAULT", CallSentences::itHasAFault);
        Says.says("11", "NONE: it has a FAULT", CallSentences::aFaultyTextLeavesNothing);
        Says.says("11", "or (the tape stays) there are 6.", CallSentences::thereAre6);
        Says.says("12", "Of the latest text that was read", CallSentences::ofTheLatestText);
        Says.says("12", "0 its FAULT (0 without)", CallSentences::itsFault);
        Says.says("12", "1 its place (NONE without).", CallSentences::itsPlace);
        Says.says("12", "NONE for others", CallSentences::faultOthers);
        Says.says("12", "and ahead of any.", CallSentences::faultAheadOfAny);
        Says.says("13", "THE TEXT (NONE: none): true.", CallSentences::theText);
        Says.says("13", "False for others.", CallSentences::byOthers);
    }

    private static void asked() {
        Says.says("14", "Of an OFFER: 0 HOURS, 1 PRICE, 2 COST, 3 LOAD", CallSentences::ofSums);
        Says.says("14", "4 LAWFUL (1, 0)", CallSentences::ofLawful);
        Says.says("14", "5 SOLD in the latest YEAR", CallSentences::ofSold);
        Says.says("14", "6 ITEMS, 10 + i, 20 + i, 30 + i: THING, WEIGHT, WATER of the i-th ITEM.", CallSentences::ofItems);
        Says.says("14", "NONE for others.", CallSentences::ofOthers);
    }

    static void all() {
        told();
        offered();
        read();
        asked();
    }
}
