/** Part IV from GIFTS on, sentence by sentence. */
final class GiftSentences {
    private GiftSentences() {
    }

    /** Gifts, each written as from, to and its worth. */
    private static ByThePound given(int... gifts) {
        ByThePound x = new ByThePound();
        for (int i = 0; i + 2 < gifts.length; i += 3) {
            due("gift " + i / 3, x.gift(gifts[i], gifts[i + 1], gifts[i + 2]), i / 3);
        }
        return x;
    }

    // ---- GIFTS

    private static void thirtyAtMost() {
        ByThePound x = new ByThePound();
        for (int i = 0; i < 30; i++) {
            due("gift " + i, x.gift(i % 8, (i + 1) % 8, 1 + i), i);
        }
        due("a 31st", x.gift(0, 1, 1), -1);
        due("gifts", x.about(6), 30);
        due("of the 30th 6 has got something", x.net(6), 6 + 14 + 22 + 30 - 7 - 15 - 23);
    }

    private static void fromOneToAnother() {
        ByThePound x = new ByThePound();
        due("from -1", x.gift(-1, 0, 5), -1);
        due("from 8", x.gift(8, 0, 5), -1);
        due("to -1", x.gift(0, -1, 5), -1);
        due("to 8", x.gift(0, 8, 5), -1);
        due("0 to 7", x.gift(0, 7, 5), 0);
        due("7 to 0", x.gift(7, 0, 6), 1);
        due("got by 0", x.net(0), 1);
        due("got by 7", x.net(7), -1);
        for (int who = 0; who <= 7; who++) {
            due("from " + who + " to himself", x.gift(who, who, 5), -1);
        }
        due("gifts", x.about(6), 2);
    }

    private static void worthOfAGift() {
        ByThePound x = new ByThePound();
        due("-1", x.gift(0, 1, -1), -1);
        due("0", x.gift(0, 1, 0), -1);
        due("1", x.gift(0, 1, 1), 0);
        due("999", x.gift(2, 3, 999), 1);
        due("1000", x.gift(0, 1, 1000), -1);
        due("of 1", x.net(1), 1);
        due("of 3", x.net(3), 999);
    }

    // ---- GOES ROUND

    private static void goesRoundIs(ByThePound x, int... rounds) {
        for (int who = 0; who < rounds.length; who++) {
            due("round from " + who, x.round(who), rounds[who]);
        }
    }

    private static void theFewestGifts() {
        goesRoundIs(given(0, 1, 9, 1, 0, 9), 2, 2, -1);
        goesRoundIs(given(0, 1, 9, 1, 2, 9, 2, 0, 9), 3, 3, 3, -1);
        goesRoundIs(given(0, 1, 9, 1, 2, 9, 2, 0, 9, 2, 1, 9), 3, 2, 2, -1);
        goesRoundIs(given(0, 1, 9, 1, 2, 9, 2, 3, 9, 3, 0, 9, 1, 3, 9), 3, 3, 4, 3, -1);
        ByThePound x = new ByThePound();
        for (int who = 0; who <= 7; who++) {
            goesRoundIs(x, -1, -1, -1, -1, -1, -1, -1, -1);
            x.gift(who, (who + 1) % 8, 1);
        }
        goesRoundIs(x, 8, 8, 8, 8, 8, 8, 8, 8);
        x.gift(6, 0, 1);
        goesRoundIs(x, 7, 7, 7, 7, 7, 7, 7, 8);
    }

    private static void backToHim() {
        goesRoundIs(given(0, 1, 5, 1, 2, 5, 2, 1, 5), -1, 2, 2, -1);
        goesRoundIs(given(1, 0, 5, 1, 2, 5, 2, 1, 5), -1, 2, 2, -1);
        goesRoundIs(given(0, 1, 5, 0, 1, 5, 0, 2, 5), -1, -1, -1);
    }

    private static void eachFromWhoHadTheOneAhead() {
        goesRoundIs(given(0, 1, 5, 2, 0, 5), -1, -1, -1);
        goesRoundIs(given(0, 1, 5, 2, 0, 5, 1, 3, 5), -1, -1, -1, -1);
        goesRoundIs(given(0, 1, 5, 2, 0, 5, 1, 3, 5, 3, 2, 5), 4, 4, 4, 4);
        goesRoundIs(given(3, 2, 5, 2, 1, 5, 1, 0, 5, 0, 3, 5), 4, 4, 4, 4);
        goesRoundIs(given(0, 1, 1, 1, 0, 999), 2, 2);
    }

    private static void noneGoesRound() {
        goesRoundIs(new ByThePound(), -1, -1, -1, -1, -1, -1, -1, -1);
        goesRoundIs(given(0, 1, 5), -1, -1, -1);
        goesRoundIs(given(7, 6, 5, 6, 7, 5), -1, -1, -1, -1, -1, -1, 2, 2);
    }

    // ---- NET

    private static void netOfOne() {
        ByThePound x = given(0, 1, 5, 0, 2, 7, 1, 0, 4, 2, 1, 3, 0, 1, 1);
        due("net of 0", x.net(0), 4 - 13);
        due("net of 1", x.net(1), 9 - 4);
        due("net of 2", x.net(2), 7 - 3);
        due("net of 3", x.net(3), 0);
        int all = 0;
        for (int who = 0; who <= 7; who++) {
            all += x.net(who);
        }
        due("all together", all, 0);
        ByThePound y = new ByThePound();
        for (int i = 0; i < 30; i++) {
            y.gift(0, 7, 999);
        }
        due("the least", y.net(0), -29970);
        due("the most", y.net(7), 29970);
    }

    // ---- STEADY

    private static void tillNobodyIsBelow0() {
        due("without gifts", new ByThePound().steady(), 0);
        due("one", given(0, 1, 1).steady(), 1);
        due("there and back", given(0, 1, 5, 1, 0, 5).steady(), 0);
        due("one more", given(0, 1, 5, 1, 0, 4).steady(), 2);
        due("round", given(0, 1, 5, 1, 2, 5, 2, 0, 5).steady(), 0);
        due("round, one less at last", given(0, 1, 5, 1, 2, 5, 2, 0, 4).steady(), 3);
        due("what goes leaves a round", given(0, 1, 5, 1, 2, 5, 2, 0, 5, 0, 3, 9).steady(), 1);
        ByThePound x = new ByThePound();
        for (int i = 0; i < 30; i++) {
            x.gift(0, 1 + i % 7, 1);
        }
        due("all thirty", x.steady(), 30);
    }

    private static void theDearest() {
        // 0 is at -3: his gift of 6 goes, then 1 (at -6) gives up his 6, then 0 his 3
        due("six ahead of three", given(0, 1, 6, 0, 2, 3, 1, 0, 6).steady(), 3);
        due("whatever stands first", given(0, 2, 3, 0, 1, 6, 1, 0, 6).steady(), 3);
        // 0 is at -6: his gift of 6 to 2 goes alone
        due("of 6, not of 3", given(0, 1, 3, 0, 2, 6, 1, 0, 3).steady(), 1);
        due("of 6, not of 3", given(0, 2, 6, 0, 1, 3, 1, 0, 3).steady(), 1);
        // who is lowest gives up his own dearest, not the dearest of all
        due("not the dearest of all", given(0, 1, 9, 1, 0, 9, 2, 3, 1).steady(), 1);
        due("each goes once", given(0, 1, 6, 0, 2, 3, 4, 5, 2, 5, 4, 2).steady(), 2);
    }

    /** Who is below 0 gives up his own; in which order they do so can't be seen from how many go. */
    private static void whoseNetIsLowest() {
        // 1 is at -2 and gives up his 4, then 0 (at -5) his 5, then 1 (at -3) his 3
        due("1 of -2, then 0 of -5", given(0, 1, 5, 1, 0, 4, 1, 2, 3).steady(), 3);
        // 0 is at -5, 1 at -4: 1 is at -9 behind 0's gift, and gives up his 9
        due("0 of -5, then 1", given(0, 1, 5, 1, 2, 9).steady(), 2);
        due("1 of -3, then 2", given(1, 2, 3, 2, 3, 4).steady(), 2);
        // 1 is at 0, 2 at -4: 2 gives up his 4, and 1 and 2 keep their round
        due("2 of -4 alone", given(1, 2, 3, 2, 1, 3, 2, 3, 4).steady(), 1);
        // 0 is at 1 and gives nothing up, though his gift is the dearest
        due("not who is above 0", given(0, 1, 9, 1, 0, 9, 2, 0, 1).steady(), 1);
        // 0 is at 0, 1 at -1
        due("not who is at 0", given(0, 1, 9, 1, 0, 9, 1, 2, 1, 2, 1, 1, 1, 3, 1).steady(), 5);
    }

    private static void ofLikeOnesTheLowestPerson() {
        due("0 and 1, at -5", given(0, 2, 5, 1, 3, 5).steady(), 2);
        // both are at -1: the one gives up 4, then the other (at -5) 3 and 2
        due("0 and 2, at -1", given(0, 2, 4, 2, 0, 3, 2, 4, 2).steady(), 3);
        due("2 and 0, at -1", given(2, 0, 4, 0, 2, 3, 0, 4, 2).steady(), 3);
        due("7 at -1", given(6, 7, 2, 7, 6, 2, 7, 5, 1).steady(), 3);
    }

    private static void theFirstGift() {
        // 2 gives as much to 3 and to 4, and 3 gives it back: the first of the two goes
        due("to 3 first: then 3 gives up his, and 2 the other", given(2, 3, 5, 3, 2, 5, 2, 4, 5).steady(), 3);
        due("to 4 first: then all is steady", given(2, 4, 5, 3, 2, 5, 2, 3, 5).steady(), 1);
        due("the gift back told first", given(3, 2, 5, 2, 3, 5, 2, 4, 5).steady(), 3);
    }

    private static void allThereAgain() {
        ByThePound x = given(0, 1, 6, 0, 2, 3, 1, 0, 6);
        due("three", x.steady(), 3);
        due("gifts", x.about(6), 3);
        due("net", x.net(0), -3);
        due("round", x.round(0), 2);
        due("three again", x.steady(), 3);
        due("a gift more", x.gift(2, 0, 3), 3);
        due("then none", x.steady(), 0);
    }

    // ---- BUYERS by a SEED

    /** What the words say, drawn here by itself. */
    private static void drawnAs(ByThePound x, int seed, int n) {
        int things = x.about(0);
        long y = seed * 9L + 5;
        long[] many = new long[n];
        long[][] told = new long[4][n];
        long all = 0;
        for (int i = 0; i < n; i++) {
            int[] by = {40, things, 100, 99};
            for (int k = 0; k < 4; k++) {
                told[k][i] = y % by[k] + (k == 0 || k == 3 ? 1 : 0);
                y = (y * 211 + 29) % 30071;
            }
            many[i] = told[0][i];
            all += many[i];
        }
        due("all of " + seed + " and " + n, x.buyers(seed, n), all);
        due("how many", x.about(2), n);
        for (int i = 0; i < n; i++) {
            for (int k = 0; k < 4; k++) {
                due("of seed " + seed + " the " + i + "th, " + k, x.about(100 + 10 * k + i), told[k][i]);
            }
        }
    }

    private static void seeds() {
        ByThePound x = Says.small();
        due("-1", x.buyers(-1, 1), -1);
        due("10000", x.buyers(10000, 1), -1);
        due("none", x.about(2), 0);
        drawnAs(x, 0, 3);
        drawnAs(x, 1, 3);
        drawnAs(x, 4999, 3);
        drawnAs(x, 9999, 3);
        due("0 is 5: MANY is 6", x.buyers(0, 1), 6);
        due("3 is 32: MANY is 33", x.buyers(3, 1), 33);
        due("4 is 41: MANY is 2", x.buyers(4, 1), 2);
        due("5 is 50: MANY is 11", x.buyers(5, 1), 11);
    }

    private static void draws() {
        ByThePound x = Says.small();
        // 5, 1084, 18256, 2957, 22536
        due("two", x.buyers(0, 2), 6 + 1 + 22536 % 40);
        due("want", x.about(110), 0);
        due("taste", x.about(120), 56);
        due("carry", x.about(130), 1 + 2957 % 99);
        for (int i = 2; i <= 9; i++) {
            drawnAs(x, 77 * i, 10);
        }
        drawnAs(x, 3341, 10);
        drawnAs(x, 9998, 10);
    }

    private static void allBuyersGo() {
        ByThePound x = Says.small();
        for (int i = 0; i < 10; i++) {
            x.buyer(999, 0, 99, 99);
        }
        drawnAs(x, 12, 1);
        due("the second is gone", x.about(101), -2);
        due("nobody there", x.likes(1), -1);
        due("the tenth is gone", x.about(109), -2);
        drawnAs(x, 12, 10);
        due("no eleventh", x.buyer(1, 0, 0, 1), -1);
        drawnAs(x, 12, 9);
        due("a tenth", x.buyer(1, 0, 0, 1), 9);
        due("refused", x.buyers(12, 11), -1);
        due("then none goes", x.about(2), 10);
    }

    private static void oneToTen() {
        ByThePound x = Says.small();
        due("-1", x.buyers(5, -1), -1);
        due("0", x.buyers(5, 0), -1);
        due("11", x.buyers(5, 11), -1);
        due("none", x.about(2), 0);
        drawnAs(x, 5, 1);
        drawnAs(x, 5, 2);
        drawnAs(x, 5, 10);
    }

    private static void byHowManyThings() {
        ByThePound x = new ByThePound();
        for (int things = 1; things <= 10; things++) {
            x.thing(1, 1, 1, 0);
            drawnAs(x, 888, 10);
        }
    }

    /** Over many seeds each draw comes to its ends and not beyond. */
    private static void endsOfDraws() {
        int[] least = {999, 999, 999, 999};
        int[] most = {-1, -1, -1, -1};
        for (int seed = 0; seed < 400; seed++) {
            ByThePound x = Says.small();
            x.thing(1, 1, 1, 0);
            x.buyers(seed * 25, 10);
            for (int k = 0; k < 4; k++) {
                for (int i = 0; i < 10; i++) {
                    least[k] = Math.min(least[k], x.about(100 + 10 * k + i));
                    most[k] = Math.max(most[k], x.about(100 + 10 * k + i));
                }
            }
        }
        int[] dueLeast = {1, 0, 0, 1};
        int[] dueMost = {40, 2, 99, 99};
        for (int k = 0; k < 4; k++) {
            due("least of " + k, least[k], dueLeast[k]);
            due("most of " + k, most[k], dueMost[k]);
        }
    }

    // ---- AN IMAGE

    private static ByThePound pictured() {
        ByThePound x = Says.small();
        x.buyer(10, 0, 20, 9);
        x.house(1, 110);
        Says.read(x, "price 5; wet 2;");
        Says.read(x, "price 6; wet 3;");
        x.by(1);
        x.offer(0, 0);
        x.put(0, 0, 4, 3);
        x.offer(0, 1);
        x.gift(0, 1, 4);
        x.gift(1, 0, 3);
        due("ten", x.year(), 10);
        return x;
    }

    private static void changeAll(ByThePound x) {
        x.thing(1, 1, 1, 1);
        x.maker(1, 1, 1);
        x.offer(1, 2);
        x.put(1, 1, 2, 0);
        x.drop(0);
        x.put(0, 1, 3, 0);
        x.buyers(5, 3);
        x.buyer(3, 1, 3, 3);
        x.house(1, 60);
        x.house(3, 70);
        Says.read(x, "price 9;");
        x.by(2);
        x.gift(1, 2, 4);
        x.year();
    }

    private static void allAsItIs() {
        ByThePound x = pictured();
        long before = Says.state(x);
        due("image", x.image(), 2);
        due("nothing changes by it", Says.state(x) == before, true);
        changeAll(x);
        due("all is changed", Says.state(x) == before, false);
        due("back", x.back(), 2);
        due("all as it was", Says.state(x) == before, true);
        x.rounds();
        due("weights are changed", x.of(0, 20) == 4, false);
        x.back();
        due("all as it was", Says.state(x) == before, true);
        due("an offer's number", x.offer(0, 0), 2);
        due("without items", x.of(2, 6), 0);
        due("a thing's number", x.thing(1, 1, 1, 1), 2);
        due("a maker's number", x.maker(1, 1, 1), 1);
        due("a buyer's number", x.buyer(1, 1, 1, 1), 1);
        due("a gift's number", x.gift(5, 6, 1), 2);
    }

    private static void eachByItself() {
        for (int i = 0; i < 12; i++) {
            ByThePound x = pictured();
            x.image();
            long before = Says.state(x);
            changeOne(x, i);
            due("changed " + i, Says.state(x) == before, false);
            x.back();
            due("back from " + i, Says.state(x) == before, true);
        }
    }

    private static void changeOne(ByThePound x, int i) {
        switch (i) {
            case 0: x.thing(1, 1, 1, 1); break;
            case 1: x.maker(1, 1, 1); break;
            case 2: x.buyer(1, 1, 1, 1); break;
            case 3: x.house(1, 109); break;
            case 4: x.offer(0, 0); break;
            case 5: x.put(1, 1, 1, 0); break;
            case 6: x.drop(0); break;
            case 7: x.by(0); break;
            case 8: x.gift(5, 6, 1); break;
            case 9: x.drop(0); x.year(); x.put(0, 0, 4, 3); break;
            case 10: x.buyers(5, 1); break;
            default: x.rounds(); break;
        }
    }

    private static void butTheTape() {
        ByThePound x = pictured();
        Says.feed(x, "price 7");
        x.image();
        Says.feed(x, "7;");
        x.back();
        due("the tape stays", x.about(7), 9);
        due("a text of all", x.text(), 2);
        x.by(2);
        due("seventy-seven", x.of(0, 1), 77);
        Says.feed(x, "bars");
        x.image();
        x.end(0);
        x.back();
        due("the tape stays empty", x.about(7), 0);
    }

    private static void butTheLatestFault() {
        ByThePound x = pictured();
        due("faultless", x.fault(0), 0);
        x.image();
        due("a fault", Says.read(x, "price 10000;"), -1);
        x.back();
        due("it stays", x.fault(0), 2);
        due("its place stays", x.fault(1), 6);
        x.image();
        due("none", Says.read(x, "price 1000;"), 2);
        x.back();
        due("none stays", x.fault(0), 0);
        due("no place stays", x.fault(1), -1);
        ByThePound y = new ByThePound();
        Says.read(y, "price");
        y.back();
        due("behind a new object's image", y.fault(0), 1);
    }

    private static void textsBehindItAreGone() {
        ByThePound x = pictured();
        x.image();
        due("a third", Says.read(x, "price 33;"), 2);
        x.by(2);
        due("by it", x.of(0, 1), 33);
        x.back();
        due("two", x.about(4), 2);
        due("THE TEXT as it was", x.about(5), 1);
        due("price as it was", x.of(0, 1), 6);
        due("the third is gone", x.by(2), false);
        due("it has no harm", x.harm(2, 0), Says.NO_SUM);
        due("another third", Says.read(x, "price 44;"), 2);
        x.by(2);
        due("by it", x.of(0, 1), 44);
        for (int i = 3; i <= 5; i++) {
            due("up to six", Says.read(x, ""), i);
        }
        due("no seventh", Says.read(x, ""), -1);
        x.back();
        x.end(0);
        due("two", x.about(4), 2);
        due("a third again", Says.read(x, "price 55;"), 2);
        x.image();
        x.back();
        due("a text ahead of the image stays", x.by(2), true);
        due("by it", x.of(0, 1), 55);
    }

    private static void due(String call, long got, long want) {
        Says.due(call, got, want);
    }

    private static void due(String call, boolean got, boolean want) {
        Says.due(call, got, want);
    }

    private static void gifts() {
        Says.says("IV", "GIFTS (30 at most)", GiftSentences::thirtyAtMost);
        Says.says("IV", "from one of PEOPLE 0 .. 7 to another", GiftSentences::fromOneToAnother);
        Says.says("IV", "a WORTH (1 .. 999).", GiftSentences::worthOfAGift);
        Says.says("IV", "GOES ROUND from one: the fewest GIFTS", GiftSentences::theFewestGifts);
        Says.says("IV", "by which something comes back to him", GiftSentences::backToHim);
        Says.says("IV", "(each from who had the one ahead)", GiftSentences::eachFromWhoHadTheOneAhead);
        Says.says("IV", "; none. NET", GiftSentences::noneGoesRound);
        Says.says("IV", "NET of one: all that he got less all that he gave.", GiftSentences::netOfOne);
        Says.says("IV", "STEADY: how many GIFTS are taken away till nobody's NET is below 0", GiftSentences::tillNobodyIsBelow0);
        Says.says("IV", "each time the dearest that was given", GiftSentences::theDearest);
        Says.says("IV", "by the one whose NET is lowest", GiftSentences::whoseNetIsLowest);
        Says.says("IV", "(of like ones the lowest PERSON", GiftSentences::ofLikeOnesTheLowestPerson);
        Says.says("IV", "the first GIFT)", GiftSentences::theFirstGift);
        Says.says("IV", "they are all there again then.", GiftSentences::allThereAgain);
    }

    private static void seed() {
        Says.says("IV", "BUYERS by a SEED: X is SEED (0 .. 9999) * 9 + 5", GiftSentences::seeds);
        Says.says("IV", "a draw by m: X mod m, X being (X * 211 + 29) mod 30071 then", GiftSentences::draws);
        Says.says("IV", "all BUYERS go", GiftSentences::allBuyersGo);
        Says.says("IV", "then n (1 .. 10) new ones", GiftSentences::oneToTen);
        Says.says("IV", "WANT by how many THINGS there are", GiftSentences::byHowManyThings);
        Says.says("IV", "MANY 1 and a draw by 40 more, WANT by how many THINGS there are, TASTE by 100, CARRY 1 and a draw by 99 more.",
            GiftSentences::endsOfDraws);
    }

    private static void image() {
        Says.says("IV", "AN IMAGE: all as it is", GiftSentences::allAsItIs);
        Says.says("IV", "AN IMAGE: all as it is", GiftSentences::eachByItself);
        Says.says("IV", "but the tape", GiftSentences::butTheTape);
        Says.says("IV", "and the latest FAULT", GiftSentences::butTheLatestFault);
        Says.says("IV", "TEXTS told behind it are gone behind going back.", GiftSentences::textsBehindItAreGone);
    }

    static void all() {
        gifts();
        seed();
        image();
    }
}
