/** Part III from TRIED on, sentence by sentence. */
final class TrialSentences {
    private TrialSentences() {
    }

    /** Two things of 1 to 10 pounds, of no stuff; makers of both without wage and with a wage of 2; ten buyers of thing 0 for 9. */
    private static ByThePound ten() {
        ByThePound x = new ByThePound();
        due("thing", x.thing(10, 1, 10, 0), 0);
        due("thing", x.thing(20, 1, 10, 0), 1);
        due("maker", x.maker(9999, 3, 0), 0);
        due("maker", x.maker(9999, 3, 2), 1);
        due("buyer", x.buyer(10, 0, 9, 99), 0);
        return x;
    }

    private static int offered(ByThePound x, int maker, int thing, int weight) {
        int offer = x.offer(maker, 0);
        due("put", x.put(offer, thing, weight, 0), 1);
        return offer;
    }

    private static void bestIs(ByThePound x, int maker, int thing, int house, int weight, int earned) {
        due("weight of " + thing + " by " + maker + " at " + house, x.best(maker, thing, house, 0), weight);
        due("earned by " + thing + " by " + maker + " at " + house, x.best(maker, thing, house, 1), earned);
    }

    // ---- TRIED

    /** A year, and then houses and a fault that the year knew nothing of. */
    private static ByThePound traded() {
        ByThePound x = ten();
        x.buyer(5, 1, 6, 4);
        offered(x, 1, 0, 7);
        offered(x, 0, 1, 3);
        x.offer(0, 2);
        Says.read(x, "price weight+1; bars thing=1;");
        Says.read(x, "hours 3;");
        due("fifteen", x.year(), 15);
        x.house(0, 60);
        x.house(3, 130);
        Says.read(x, "price 1 price");
        return x;
    }

    private static int ask(ByThePound x, int call) {
        switch (call) {
            case 0: return x.best(1, 0, 3, 0);
            case 1: return x.best(1, 0, 3, 1);
            case 2: return x.tied(0, 0, 1, 3);
            case 3: return x.never(0);
            case 4: return x.harm(0, 0);
            case 5: return x.harm(0, 1);
            case 6: return x.harm(0, 2);
            case 7: return x.least();
            case 8: return x.changed(0, 0);
            case 9: return x.changed(0, 1);
            case 10: return x.changed(0, 2);
            case 11: return x.changed(0, 3);
            case 12: return x.where(0);
            case 13: return x.judge();
            case 14: return x.likes(0);
            default: return x.steady();
        }
    }

    private static void nothingChanges() {
        for (int call = 0; call <= 15; call++) {
            ByThePound x = traded();
            long before = Says.state(x);
            int first = ask(x, call);
            due("all is as it was behind " + call, Says.state(x) == before, true);
            due("the same is told again by " + call, ask(x, call), first);
        }
    }

    private static void roundsChangeNoYear() {
        ByThePound x = ten();
        offered(x, 0, 0, 3);
        due("ten", x.year(), 10);
        due("rounds", x.rounds(), 2);
        due("weight", x.of(0, 20), 9);
        due("sold stays", x.of(0, 5), 10);
        due("earned stays", x.told(0, 0), 30);
        due("gain stays", x.told(3, 0), 60);
        due("hours stay", x.told(1, 0), 9999 - 10);
    }

    // ---- BEST

    private static void bestOfAThingForAMaker() {
        ByThePound x = ten();
        bestIs(x, 0, 0, 0, 9, 90);
        bestIs(x, 1, 0, 0, 7, 30);
        bestIs(x, 0, 1, 0, 1, 0);
        x.buyer(20, 1, 4, 99);
        bestIs(x, 0, 1, 0, 4, 80);
        bestIs(x, 0, 0, 0, 9, 90);
    }

    private static void bestAtAHouse() {
        ByThePound x = ten();
        x.house(1, 150);
        x.house(2, 50);
        x.house(3, 130);
        bestIs(x, 0, 0, 0, 9, 90);
        bestIs(x, 0, 0, 1, 6, 90);
        bestIs(x, 0, 0, 2, 10, 50);
        bestIs(x, 0, 0, 3, 7, 90);
    }

    private static void aNewOfferBehindAll() {
        ByThePound x = ten();
        offered(x, 0, 0, 9);
        bestIs(x, 1, 0, 0, 7, 30);
        bestIs(x, 0, 0, 0, 9, 90);
        ByThePound y = ten();
        offered(y, 1, 0, 9);
        bestIs(y, 0, 0, 0, 8, 80);
        offered(y, 1, 0, 5);
        bestIs(y, 0, 0, 0, 4, 40);
        due("no more offers", y.about(3), 2);
    }

    private static void ofOneItemWithoutWater() {
        ByThePound x = ten();
        Says.rule(x, "wet 9; price weight+10*tied; worth 18+100*(tied-1);");
        bestIs(x, 0, 0, 0, 8, 180);
        due("its load: he couldn't carry more", x.buyer(1, 0, 9, 8), 1);
        bestIs(x, 0, 0, 0, 8, 198);
    }

    private static void evenIf20() {
        ByThePound x = ten();
        for (int i = 0; i < 19; i++) {
            due("offer", offered(x, 1, 0, 9), i);
        }
        bestIs(x, 0, 0, 0, 8, 80);
        due("the twentieth", offered(x, 1, 0, 6), 19);
        bestIs(x, 0, 0, 0, 5, 50);
        due("offers", x.about(3), 20);
        due("the twentieth", x.of(19, 20), 6);
        due("no more", x.offer(0, 0), -1);
    }

    private static void theWeightByWhichHeEarnsMost() {
        ByThePound x = Says.small();
        x.buyer(10, 0, 99, 99);
        Says.rule(x, "price 20-weight;");
        bestIs(x, 0, 0, 0, 2, 160);
        Says.rule(x, "price 3*weight;");
        bestIs(x, 0, 0, 0, 8, 160);
        Says.rule(x, "price 9-(weight-5)*(weight-5)+weight;");
        bestIs(x, 0, 0, 0, 5, 90);
        Says.rule(x, "price 0;");
        bestIs(x, 0, 0, 0, 2, -20);
        Says.rule(x, "price 0; bars weight<8;");
        bestIs(x, 0, 0, 0, 2, 0);
    }

    private static void heEarnsByAllThatHeOffers() {
        ByThePound x = ten();
        offered(x, 0, 0, 8);
        bestIs(x, 0, 0, 0, 8, 80);
        x.buyer(10, 1, 5, 99);
        bestIs(x, 0, 1, 0, 5, 130);
        bestIs(x, 1, 1, 0, 3, 10);
    }

    private static void bestOfLikeOnesTheLowest() {
        ByThePound x = Says.small();
        x.buyer(10, 0, 9, 99);
        Says.rule(x, "price weight+weight/3*3;");
        bestIs(x, 0, 0, 0, 3, 30);
        Says.rule(x, "price 9;");
        bestIs(x, 0, 0, 0, 2, 70);
        Says.rule(x, "price weight+weight/3;");
        bestIs(x, 0, 0, 0, 6, 20);
        Says.rule(x, "price 10;");
        bestIs(x, 0, 0, 0, 2, 0);
    }

    private static void bestTellsTwo() {
        ByThePound x = ten();
        due("weight", x.best(0, 0, 0, 0), 9);
        due("earned", x.best(0, 0, 0, 1), 90);
        due("below", x.best(0, 0, 0, -1), Says.NO_SUM);
        due("above", x.best(0, 0, 0, 2), Says.NO_SUM);
    }

    // ---- BY TURNS

    /** Two makers of one thing, both at the weight: in each round the first goes where the second is, the second a pound lower. */
    private static ByThePound chase(int weight) {
        ByThePound x = new ByThePound();
        x.thing(10, 1, 40, 0);
        x.maker(9999, 1, 0);
        x.maker(9999, 1, 0);
        x.buyer(10, 0, 40, 40);
        offered(x, 0, 0, weight);
        offered(x, 1, 0, weight);
        return x;
    }

    private static void weightsAre(ByThePound x, int first, int second) {
        due("weight of the first", x.of(0, 20), first);
        due("weight of the second", x.of(1, 20), second);
    }

    private static void offersInOrder() {
        ByThePound x = chase(20);
        due("chased", x.rounds(), -1);
        weightsAre(x, 12, 11);
        ByThePound y = chase(20);
        y.drop(0);
        y.put(0, 0, 21, 0);
        due("chased", y.rounds(), -1);
        weightsAre(y, 12, 11);
    }

    private static void itemByItem() {
        ByThePound x = Says.small();
        x.buyer(10, 0, 1, 99);
        Says.rule(x, "worth 5;");
        x.offer(0, 0);
        x.put(0, 0, 2, 0);
        x.put(0, 0, 2, 0);
        due("price is cost at any weight: none changes", x.rounds(), 1);
        Says.rule(x, "worth 5; price weight*2;");
        due("one changes", x.rounds(), 2);
        due("the first", x.of(0, 20), 3);
        due("the second", x.of(0, 21), 2);
        Says.rule(x, "worth 20/3; price weight*2;");
        x.put(0, 1, 1, 0);
        due("the first alone", x.rounds(), 2);
        due("the first", x.of(0, 20), 6);
        due("the second", x.of(0, 21), 2);
        due("the third", x.of(0, 22), 1);
        Says.rule(x, "worth 40/3; price weight*2;");
        due("all by one round", x.rounds(), 2);
        due("the first", x.of(0, 20), 8);
        due("the second", x.of(0, 21), 8);
        due("the third", x.of(0, 22), 3);
    }

    private static void itsMakerEarnsMost() {
        ByThePound x = ten();
        offered(x, 0, 0, 4);
        due("one changes", x.rounds(), 2);
        due("as BEST", x.of(0, 20), 9);
        ByThePound y = ten();
        offered(y, 1, 0, 10);
        due("one changes", y.rounds(), 2);
        due("as BEST by a wage", y.of(0, 20), 7);
        ByThePound z = ten();
        offered(z, 0, 0, 5);
        offered(z, 0, 1, 9);
        offered(z, 0, 0, 5);
        z.buyer(3, 1, 6, 99);
        due("of two that sell alike none changes, of the one between one does", z.rounds(), 2);
        due("the first", z.of(0, 20), 5);
        due("the second", z.of(1, 20), 6);
        due("the third", z.of(2, 20), 5);
    }

    private static void lightestAndHeaviest() {
        ByThePound x = Says.small();
        x.buyer(10, 0, 99, 99);
        offered(x, 0, 0, 5);
        Says.rule(x, "price 3*weight;");
        due("one changes", x.rounds(), 2);
        due("most", x.of(0, 20), 8);
        Says.rule(x, "price 20-weight;");
        due("one changes", x.rounds(), 2);
        due("least", x.of(0, 20), 2);
        Says.rule(x, "price 50; bars weight#7;");
        due("one changes", x.rounds(), 2);
        due("the one that is lawful", x.of(0, 20), 7);
    }

    private static void asAllOthersAre() {
        ByThePound x = ten();
        offered(x, 0, 0, 9);
        offered(x, 1, 0, 6);
        // the first goes to 6, the second to 3 (of 5 and 3, by a wage of 2), the first to 3, and the second can't go lower
        due("three", x.rounds(), 3);
        weightsAre(x, 3, 3);
        ByThePound y = ten();
        Says.rule(y, "wet 2;");
        y.offer(0, 0);
        y.put(0, 0, 4, 2);
        due("its water stays", y.rounds(), 2);
        due("seven and two", y.of(0, 20), 7);
        due("its water stays", y.of(0, 30), 2);
    }

    /** The weight behind BY TURNS when two prices stand, of weights below 6 and from 6 on. */
    private static void fromWeight(int weight, int rounds, int then) {
        ByThePound x = Says.small();
        x.buyer(10, 0, 99, 99);
        offered(x, 0, 0, weight);
        Says.rule(x, "price weight+weight/6*10;");
        due("rounds from " + weight, x.rounds(), rounds);
        due("weight from " + weight, x.of(0, 20), then);
    }

    private static void likeOnes() {
        fromWeight(8, 1, 8);
        fromWeight(7, 1, 7);
        fromWeight(6, 1, 6);
        fromWeight(5, 2, 6);
        fromWeight(2, 2, 6);
        ByThePound x = ten();
        offered(x, 0, 1, 7);
        due("nobody wants it at any weight", x.rounds(), 1);
        due("weight", x.of(0, 20), 7);
    }

    private static void untilNoneChanges() {
        due("without offers", ten().rounds(), 1);
        due("from 1", chase(1).rounds(), 1);
        due("from 2", chase(2).rounds(), 3);
        due("from 3", chase(3).rounds(), 4);
        ByThePound x = chase(3);
        x.rounds();
        due("again", x.rounds(), 1);
        ByThePound y = ten();
        y.offer(0, 0);
        due("without items", y.rounds(), 1);
    }

    private static void nineAtMost() {
        due("from 7", chase(7).rounds(), 8);
        due("from 8", chase(8).rounds(), 9);
        due("from 9", chase(9).rounds(), -1);
        due("from 10", chase(10).rounds(), -1);
    }

    private static void thatOneToo() {
        ByThePound x = ten();
        offered(x, 0, 0, 9);
        due("the one by which none changes", x.rounds(), 1);
        x.drop(0);
        x.put(0, 0, 8, 0);
        due("one that changes, and that one", x.rounds(), 2);
    }

    private static void weightsStay() {
        ByThePound x = chase(8);
        x.rounds();
        weightsAre(x, 1, 1);
        ByThePound y = chase(9);
        due("not by nine", y.rounds(), -1);
        weightsAre(y, 1, 1);
        due("then none changes", y.rounds(), 1);
        ByThePound z = chase(10);
        due("not by nine", z.rounds(), -1);
        weightsAre(z, 2, 1);
        due("one changes", z.rounds(), 2);
        weightsAre(z, 1, 1);
    }

    // ---- NEVER

    /** Thing 0 of 2 to 8 pounds, a maker of it without hours and wage, and by the text. */
    private static ByThePound rare(int stuff, String text) {
        ByThePound x = new ByThePound();
        x.thing(10, 2, 8, stuff);
        x.maker(0, 1, 0);
        Says.rule(x, text);
        return x;
    }

    /** WHY, with one buyer. */
    private static void neverIs(int stuff, String text, int taste, int carry, int why) {
        ByThePound x = rare(stuff, text);
        x.buyer(1, 0, taste, carry);
        due("why, of stuff " + stuff + " by " + text + " for " + taste + " and " + carry, x.never(0), why);
    }

    private static void noMakerHasIt() {
        ByThePound x = new ByThePound();
        x.thing(10, 2, 8, 0);
        x.thing(10, 2, 8, 0);
        x.buyer(1, 0, 99, 99);
        x.maker(9, 2, 0);
        x.maker(9, 2, 99);
        due("of none", x.never(0), 1);
        x.maker(9, 1, 0);
        due("of the third", x.never(0), 0);
        due("what is theirs nobody wants", x.never(1), 2);
    }

    private static void withAWeight() {
        neverIs(0, "bars weight#1;", 99, 99, 2);
        neverIs(0, "bars weight#2;", 99, 99, 0);
        neverIs(0, "bars weight#5;", 99, 99, 0);
        neverIs(0, "bars weight#8;", 99, 99, 0);
        neverIs(0, "bars weight#9;", 99, 99, 2);
    }

    private static void andNoWater() {
        neverIs(0, "wet 9; bars weight<9;", 99, 99, 2);
        neverIs(0, "wet 9; bars weight<8;", 99, 99, 0);
        neverIs(0, "wet 9; bars weight#2;", 99, 2, 0);
    }

    private static void atSomeHouse() {
        for (int house = 0; house <= 3; house++) {
            ByThePound x = rare(1, "");
            x.buyer(1, 0, 99, 99);
            for (int other = 0; other <= 3; other++) {
                x.house(other, 99);
            }
            due("at none", x.never(0), 3);
            x.house(house, 100);
            due("at " + house, x.never(0), 0);
        }
    }

    private static void lawfulAlone() {
        neverIs(0, "bars tied=1;", 99, 99, 2);
        neverIs(0, "bars tied=2;", 99, 99, 0);
        neverIs(0, "bars tied#1;", 99, 99, 0);
    }

    private static void priceIsCostOrMore() {
        neverIs(3, "price 3*weight-1;", 99, 99, 3);
        neverIs(3, "price 3*weight;", 99, 99, 0);
        neverIs(3, "price 3*weight+1;", 99, 99, 0);
        neverIs(3, "price 6; bars weight#2;", 99, 99, 0);
        neverIs(3, "price 5; bars weight#2;", 99, 99, 3);
    }

    private static void someBuyerLikesIt() {
        ByThePound x = rare(0, "");
        due("without buyers", x.never(0), 2);
        for (int i = 0; i < 9; i++) {
            x.buyer(9, 0, 1, 9);
        }
        due("nobody", x.never(0), 2);
        x.buyer(1, 0, 2, 9);
        due("the tenth", x.never(0), 0);
    }

    private static void why1() {
        ByThePound x = new ByThePound();
        x.thing(10, 2, 8, 9);
        due("without makers", x.never(0), 1);
        x.maker(9, 1022, 0);
        due("a maker of all others", x.never(0), 1);
        x.buyer(1, 0, 99, 99);
        due("somebody wants it", x.never(0), 1);
        x.maker(9, 1, 0);
        due("not then", x.never(0), 3);
    }

    private static void why2Carry() {
        neverIs(0, "", 99, 1, 2);
        neverIs(0, "", 99, 2, 0);
        neverIs(0, "", 99, 3, 0);
    }

    /** The document's words leave it open: somebody could carry it, somebody's WORTH is PRICE or more, but nobody LIKES it. */
    private static void why2NobodyLikesIt() {
        neverIs(0, "bars weight<4;", 99, 3, 2);
        neverIs(0, "bars weight<4;", 99, 4, 0);
        ByThePound x = rare(0, "");
        x.buyer(1, 0, 1, 99);
        x.buyer(1, 0, 99, 1);
        due("the one can carry it, the other would pay", x.never(0), 2);
    }

    private static void why2Worth() {
        neverIs(0, "", 1, 99, 2);
        neverIs(0, "", 2, 99, 0);
        neverIs(0, "", 3, 99, 0);
        neverIs(9, "", 1, 99, 2);
        neverIs(9, "", 2, 99, 3);
    }

    private static void whileItIsLawful() {
        neverIs(0, "bars weight<5;", 4, 99, 2);
        neverIs(0, "bars weight<4;", 4, 99, 0);
        neverIs(0, "bars 1=1;", 99, 99, 2);
        neverIs(9, "bars 1=1;", 99, 99, 2);
    }

    private static void why3() {
        neverIs(5, "price weight*weight;", 24, 99, 3);
        neverIs(5, "price weight*weight;", 25, 99, 0);
        neverIs(5, "price weight*weight;", 99, 4, 3);
        neverIs(5, "price weight*weight;", 99, 5, 0);
        neverIs(5, "price weight*weight; bars weight>4;", 99, 99, 3);
        neverIs(5, "price weight*weight; bars weight>5;", 99, 99, 0);
        ByThePound x = rare(0, "hours 1;");
        x.buyer(1, 0, 9, 99);
        x.thing(10, 2, 8, 0);
        x.maker(0, 2, 9);
        x.buyer(1, 1, 8, 99);
        due("by a wage of 9", x.never(1), 3);
        x.maker(0, 2, 8);
        due("by another of 8", x.never(1), 0);
    }

    private static void itCanBeHad() {
        ByThePound x = Says.small();
        x.buyer(1, 1, 1, 1);
        due("it can", x.never(1), 0);
        due("the other can't", x.never(0), 2);
        x.buyer(1, 0, 2, 2);
        due("now it can", x.never(0), 0);
    }

    // ---- TIED

    private static void twoUnlikeThings() {
        ByThePound x = ten();
        x.buyer(10, 1, 4, 99);
        due("0 and itself", x.tied(0, 0, 0, 0), Says.NO_SUM);
        due("1 and itself", x.tied(0, 1, 1, 0), Says.NO_SUM);
        due("0 and 1: nine for the one, or four for both, less 90 and 40", x.tied(0, 0, 1, 0), 90 - 130);
        due("1 and 0", x.tied(0, 1, 0, 0), 90 - 130);
    }

    private static void ofHisCrafts() {
        ByThePound x = ten();
        x.thing(30, 1, 10, 0);
        x.maker(9999, 4, 0);
        x.maker(9999, 5, 0);
        due("one isn't", x.tied(0, 0, 2, 0), Says.NO_SUM);
        due("the other isn't", x.tied(0, 2, 0, 0), Says.NO_SUM);
        due("neither is", x.tied(2, 0, 1, 0), Says.NO_SUM);
        due("both are", x.tied(3, 0, 2, 0), 0);
        due("by a wage: seven and two for thirty, seven alone for thirty", x.tied(1, 0, 1, 0), 0);
    }

    private static void tiedAtAHouse() {
        ByThePound x = ten();
        x.house(1, 150);
        x.house(2, 50);
        x.house(3, 60);
        due("two and four are nine, six is nine", x.tied(0, 0, 1, 1), 90 - 90);
        due("ten and eight are nine, ten is five", x.tied(0, 0, 1, 2), 90 - 50);
        due("ten and five are nine, ten is six", x.tied(0, 0, 1, 3), 90 - 60);
    }

    private static void tiedWithoutWater() {
        ByThePound x = ten();
        Says.rule(x, "wet 9; worth 99; bars thing=0 and weight#4 or thing=1 and weight#6;");
        due("four and six, less four", x.tied(0, 0, 1, 0), 100 - 40);
        ByThePound y = new ByThePound();
        y.thing(10, 4, 4, 0);
        y.thing(20, 6, 6, 0);
        y.maker(99, 3, 0);
        y.buyer(3, 0, 10, 9);
        Says.rule(y, "wet 9;");
        due("too heavy for 9", y.tied(0, 0, 1, 0), 0 - 12);
        y.buyer(3, 0, 10, 10);
        due("not for 10", y.tied(0, 0, 1, 0), 30 - 24);
    }

    /** Both things are lawful of one weight each: all is told by these. */
    private static void eachOfAnyWeight() {
        for (int a = 2; a <= 4; a++) {
            for (int b = 1; b <= 3; b++) {
                ByThePound x = new ByThePound();
                x.thing(10, 2, 4, 0);
                x.thing(20, 1, 3, 0);
                x.maker(9999, 3, 0);
                x.buyer(10, 0, 5, 99);
                Says.rule(x, "worth 90; bars thing=0 and weight#" + a + " or thing=1 and weight#" + b + ";");
                due(a + " and " + b + ", less the cheaper", x.tied(0, 0, 1, 0), 10 * (a + b) - 10 * Math.min(a, b));
            }
        }
        ByThePound y = Says.small();
        y.buyer(10, 0, 5, 99);
        Says.rule(y, "worth 90; bars thing=0 and weight#9 or thing=1 and weight#3;");
        due("above its most: nothing tied, three apart", y.tied(0, 0, 1, 0), 0 - 30);
        Says.rule(y, "worth 90; bars thing=0 and weight#8 or thing=1 and weight#0;");
        due("below its least: nothing tied, eight apart of stuff 8", y.tied(0, 0, 1, 0), 0);
    }

    private static void theMostOfBoth() {
        ByThePound x = ten();
        Says.rule(x, "worth 7;");
        due("fourteen for both, seven for one", x.tied(0, 0, 1, 0), 140 - 70);
        Says.rule(x, "worth 10-7*(tied-1);");
        due("six for both, ten for one", x.tied(0, 0, 1, 0), 60 - 100);
        Says.rule(x, "worth 10; price weight*tied;");
        due("twice the weight of ten, ten for one", x.tied(0, 0, 1, 0), 200 - 100);
        Says.rule(x, "worth 10; hours 2000*tied;");
        due("five hours of 1998 for twenty, ten of 999 for ten", x.tied(0, 0, 1, 0), 5 * 20 - 100);
    }

    private static void tiedBesideHisOwn() {
        ByThePound x = ten();
        x.buyer(3, 1, 8, 99);
        offered(x, 0, 0, 5);
        // five for the ten of thing 0: tied for eight the three buy it, apart they buy thing 1 for eight
        due("all that he earns", x.tied(0, 0, 1, 0), 50 + 24 - (50 + 24));
        x.drop(0);
        due("without it: nine for ten, or eight for all; less nine and eight", x.tied(0, 0, 1, 0), 104 - 114);
    }

    private static void theMostByTwo() {
        ByThePound x = ten();
        x.buyer(10, 1, 6, 99);
        due("nine and six apart, nine for one or six for both tied", x.tied(0, 0, 1, 0), 120 - 150);
        Says.rule(x, "price weight*tied*tied; worth taste*want;");
        due("four times as dear when tied", x.tied(0, 0, 1, 0), 80 - 150);
        Says.rule(x, "bars tied=2;");
        due("not lawful tied", x.tied(0, 0, 1, 0), 0 - 150);
        Says.rule(x, "bars tied=1;");
        due("not lawful apart", x.tied(0, 0, 1, 0), 120);
    }

    /** BEST tells ten pounds of each, as if it were alone; together they need more hours than there are. */
    private static void eachOfTheWeightThatBestTells() {
        ByThePound x = new ByThePound();
        x.thing(10, 1, 10, 0);
        x.thing(20, 1, 10, 0);
        x.maker(10, 3, 0);
        x.buyer(1, 0, 99, 99);
        x.buyer(1, 1, 99, 99);
        Says.rule(x, "hours weight; price weight+5;");
        bestIs(x, 0, 0, 0, 10, 15);
        bestIs(x, 0, 1, 0, 10, 15);
        due("twice five pounds for fifteen tied, once ten pounds for fifteen apart", x.tied(0, 0, 1, 0), 30 - 15);
    }

    private static void besideWhatIsOffered() {
        ByThePound x = ten();
        x.buyer(10, 1, 4, 99);
        offered(x, 1, 0, 7);
        due("four for all tied, six and four apart", x.tied(0, 0, 1, 0), 80 - 100);
        x.drop(0);
        due("nine for one tied, nine and four apart", x.tied(0, 0, 1, 0), 90 - 130);
    }

    private static void triedBehindAll() {
        ByThePound x = ten();
        offered(x, 1, 0, 7);
        due("six tied, six apart", x.tied(0, 0, 1, 0), 0);
        Says.rule(x, "bars thing=0 and weight=6 and tied=1;");
        due("six tied, five apart", x.tied(0, 0, 1, 0), 60 - 50);
        x.by(-1);
        for (int i = 1; i < 20; i++) {
            due("offer", offered(x, 1, 0, 7), i);
        }
        due("even if there are 20", x.tied(0, 0, 1, 0), 0);
        x.buyer(10, 1, 7, 99);
        due("six tied for all, six and seven apart", x.tied(0, 0, 1, 0), 120 - 130);
        due("offers", x.about(3), 20);
    }

    private static void due(String call, long got, long want) {
        Says.due(call, got, want);
    }

    private static void due(String call, boolean got, boolean want) {
        Says.due(call, got, want);
    }

    private static void best() {
        Says.says("III", "What is TRIED is a YEAR by which nothing changes.", TrialSentences::nothingChanges);
        Says.says("III", "What is TRIED is a YEAR by which nothing changes.", TrialSentences::roundsChangeNoYear);
        Says.says("III", "BEST of a THING for a MAKER", TrialSentences::bestOfAThingForAMaker);
        Says.says("III", "at a HOUSE: a new OFFER", TrialSentences::bestAtAHouse);
        Says.says("III", "a new OFFER behind all others", TrialSentences::aNewOfferBehindAll);
        Says.says("III", "of this one ITEM without WATER", TrialSentences::ofOneItemWithoutWater);
        Says.says("III", "(even if there are 20)", TrialSentences::evenIf20);
        Says.says("III", "the WEIGHT by which he EARNS most", TrialSentences::theWeightByWhichHeEarnsMost);
        Says.says("III", "by which he EARNS most", TrialSentences::heEarnsByAllThatHeOffers);
        Says.says("III", "of like ones the lowest: ", TrialSentences::bestOfLikeOnesTheLowest);
        Says.says("III", "WEIGHT, EARNED.", TrialSentences::bestTellsTwo);
    }

    private static void byTurns() {
        Says.says("III", "BY TURNS: OFFERS in order", TrialSentences::offersInOrder);
        Says.says("III", "ITEM by ITEM", TrialSentences::itemByItem);
        Says.says("III", "its WEIGHT becomes that by which its MAKER EARNS most in a YEAR TRIED", TrialSentences::itsMakerEarnsMost);
        Says.says("III", "its WEIGHT becomes that", TrialSentences::lightestAndHeaviest);
        Says.says("III", "as all others are", TrialSentences::asAllOthersAre);
        Says.says("III", "(of like ones what it is, else the lowest).", TrialSentences::likeOnes);
        Says.says("III", "ROUNDS until none changes", TrialSentences::untilNoneChanges);
        Says.says("III", "9 at most", TrialSentences::nineAtMost);
        Says.says("III", "how many (that one, too)", TrialSentences::thatOneToo);
        Says.says("III", "WEIGHTS stay as they are then.", TrialSentences::weightsStay);
    }

    private static void never() {
        Says.says("III", "NEVER had: of a THING: no MAKER has it among his CRAFTS", TrialSentences::noMakerHasIt);
        Says.says("III", "with a WEIGHT", TrialSentences::withAWeight);
        Says.says("III", "(and no WATER)", TrialSentences::andNoWater);
        Says.says("III", "at some HOUSE by which it is", TrialSentences::atSomeHouse);
        Says.says("III", "LAWFUL alone", TrialSentences::lawfulAlone);
        Says.says("III", "PRICE is COST or more", TrialSentences::priceIsCostOrMore);
        Says.says("III", "and some BUYER LIKES it.", TrialSentences::someBuyerLikesIt);
        Says.says("III", "WHY: 1 nobody's CRAFT", TrialSentences::why1);
        Says.says("III", "2 else nobody could carry it", TrialSentences::why2Carry);
        Says.says("III", "2 else nobody could carry it, or no BUYER's WORTH is PRICE or more", TrialSentences::why2NobodyLikesIt);
        Says.says("III", "or no BUYER's WORTH is PRICE or more", TrialSentences::why2Worth);
        Says.says("III", "while it is LAWFUL", TrialSentences::whileItIsLawful);
        Says.says("III", "3 else PRICE is below COST wherever one LIKES it", TrialSentences::why3);
        Says.says("III", "0 it can be had.", TrialSentences::itCanBeHad);
    }

    private static void tied() {
        Says.says("III", "TIED: of two THINGS (unlike)", TrialSentences::twoUnlikeThings);
        Says.says("III", "of a MAKER's CRAFTS at", TrialSentences::ofHisCrafts);
        Says.says("III", "at a HOUSE, without", TrialSentences::tiedAtAHouse);
        Says.says("III", "without WATER, each", TrialSentences::tiedWithoutWater);
        Says.says("III", "each of any WEIGHT", TrialSentences::eachOfAnyWeight);
        Says.says("III", "the most that he EARNS by one new OFFER of both", TrialSentences::theMostOfBoth);
        Says.says("III", "the most that he EARNS", TrialSentences::tiedBesideHisOwn);
        Says.says("III", "less the most by two new OFFERS, each of one", TrialSentences::theMostByTwo);
        Says.says("III", "each of the WEIGHT that BEST tells of it", TrialSentences::eachOfTheWeightThatBestTells);
        Says.says("III", "beside what is offered now", TrialSentences::besideWhatIsOffered);
        Says.says("III", "(all TRIED behind all OFFERS).", TrialSentences::triedBehindAll);
    }

    static void all() {
        best();
        byTurns();
        never();
        tied();
    }
}
