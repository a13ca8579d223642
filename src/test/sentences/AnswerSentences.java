/** Promises 15 to 35, sentence by sentence. */
final class AnswerSentences {
    private static final int LOW = Integer.MIN_VALUE;
    private static final int HIGH = Integer.MAX_VALUE;
    private static final int NO_SUM = Says.NO_SUM;
    private static final int NO_WORTH = Says.NO_WORTH;

    private AnswerSentences() {
    }

    // ---- 15: worth

    private static void worthToABuyer() {
        ByThePound x = Says.shop();
        due("what he wants, and another", x.worth(0, 0), 20);
        due("what he doesn't want", x.worth(0, 1), 0);
        due("what he doesn't want", x.worth(1, 0), 0);
        due("what he wants", x.worth(1, 1), 12);
        x.drop(0);
        due("of nothing", x.worth(0, 0), 0);
        x.end(0);
        Says.rule(x, "worth weight-taste; bars 1=1;");
        due("below 0, barred or not", x.worth(0, 1), -15);
        due("below 0, barred or not", x.worth(1, 1), -7);
    }

    private static void worthOthers() {
        Says.refused(Says::shop, "worth", NO_WORTH,
            x -> x.worth(-1, 0), x -> x.worth(2, 0), x -> x.worth(10, 0), x -> x.worth(LOW, 0), x -> x.worth(HIGH, 0),
            x -> x.worth(0, -1), x -> x.worth(0, 2), x -> x.worth(0, 20), x -> x.worth(0, LOW), x -> x.worth(0, HIGH), x -> x.worth(-1, -1));
        Says.refused(ByThePound::new, "worth", NO_WORTH, x -> x.worth(0, 0));
    }

    // ---- 16: likes

    private static void likesBest() {
        ByThePound x = Says.shop();
        due("the first", x.likes(0), 0);
        due("the second", x.likes(1), 1);
        x.offer(0, 0);
        x.put(2, 0, 4, 0);
        due("20 less 6, not 20 less 12", x.likes(0), 2);
        x.maker(0, 1, 0);
        x.offer(2, 0);
        x.put(3, 0, 4, 0);
        due("of like ones the lower", x.likes(0), 2);
        x.drop(2);
        due("even if its maker has no hours", x.likes(0), 3);
        due("it can't be had, so the other is sold", x.year(), 14);
        due("the other", x.of(0, 5), 10);
    }

    private static void likesNone() {
        ByThePound x = Says.shop();
        x.drop(0);
        due("none", x.likes(0), -1);
        due("one", x.likes(1), 1);
        x.house(1, 100);
        x.by(-1);
        x.drop(1);
        due("none", x.likes(1), -1);
        ByThePound y = Says.small();
        y.buyer(1, 0, 9, 9);
        due("without offers", y.likes(0), -1);
    }

    private static void likesOthers() {
        Says.refused(Says::shop, "likes", -1, x -> x.likes(-1), x -> x.likes(2), x -> x.likes(10), x -> x.likes(LOW), x -> x.likes(HIGH));
        Says.refused(ByThePound::new, "likes", -1, x -> x.likes(0));
    }

    // ---- 17: year

    private static void soldAllTogether() {
        due("of nothing", new ByThePound().year(), 0);
        ByThePound x = Says.shop();
        due("ten and four", x.year(), 14);
        due("of the first", x.of(0, 5), 10);
        due("of the second", x.of(1, 5), 4);
        x.drop(0);
        due("four", x.year(), 4);
        x.drop(1);
        due("none", x.year(), 0);
        ByThePound y = Says.small();
        for (int i = 0; i < 10; i++) {
            y.buyer(999, 1, 9, 9);
        }
        due("maker", y.maker(9999, 2, 0), 1);
        y.offer(1, 0);
        y.put(0, 1, 1, 0);
        due("all that ask", y.year(), 9990);
        due("hours left", y.told(1, 1), 9);
    }

    // ---- 18: told

    private static void ofTheLatestYear() {
        ByThePound x = Says.shop();
        long[] first = {x.told(0, 0), x.told(1, 0), x.told(2, 0), x.told(3, 0)};
        x.house(0, 60);
        x.drop(0);
        x.maker(1, 1, 1);
        for (int what = 0; what <= 3; what++) {
            due("the same till the next: " + what, x.told(what, 0), first[what]);
        }
        x.year();
        due("earned", x.told(0, 0), 0);
        due("hours", x.told(1, 0), 100);
        due("lacks", x.told(2, 0), 10);
        due("gain", x.told(3, 0), 0);
    }

    private static void aheadOfAny() {
        ByThePound x = Says.sixPounds();
        for (int what = 0; what <= 3; what++) {
            due("told " + what, x.told(what, 0), 0);
        }
        x.rounds();
        x.best(0, 0, 0, 0);
        x.harm(-1, 2);
        for (int what = 0; what <= 3; what++) {
            due("told " + what, x.told(what, 0), 0);
        }
        due("a year", x.year(), 1);
        due("4 pounds, by the rounds: 6 less 4", x.told(0, 0), 2);
        due("7 less 6", x.told(3, 0), 1);
        x.back();
        x.thing(1, 1, 1, 1);
        x.maker(5, 1, 1);
        x.buyer(5, 0, 1, 1);
        for (int what = 0; what <= 3; what++) {
            due("behind going back to none: " + what, x.told(what, 0), 0);
        }
    }

    private static void whoWasNotThere() {
        ByThePound x = Says.shop();
        due("maker", x.maker(77, 1, 1), 2);
        due("buyer", x.buyer(9, 0, 1, 1), 2);
        due("earned", x.told(0, 2), 0);
        due("hours left", x.told(1, 2), 0);
        due("lacks", x.told(2, 2), 0);
        due("gain", x.told(3, 2), 0);
        x.year();
        due("then he was there", x.told(1, 2), 77);
        due("then he was there", x.told(2, 2), 9);
        x.buyers(3, 3);
        for (int who = 0; who <= 2; who++) {
            due("new ones lack nothing", x.told(2, who), 0);
            due("new ones gain nothing", x.told(3, who), 0);
        }
        due("the makers are the same", x.told(1, 2), 77);
    }

    private static void earned() {
        ByThePound x = Says.shop();
        // offer 0: price 12, cost 4, ten; offer 1: price 6, cost 2, four
        due("ten times 8", x.told(0, 0), 80);
        due("four times 4", x.told(0, 1), 16);
    }

    private static void hoursLeft() {
        ByThePound x = Says.shop();
        due("100 less 30", x.told(1, 0), 70);
        due("30 less 8", x.told(1, 1), 22);
    }

    private static void lacks() {
        ByThePound x = Says.shop();
        due("none", x.told(2, 0), 0);
        due("none", x.told(2, 1), 0);
        x.drop(1);
        x.year();
        due("none", x.told(2, 0), 0);
        due("all four", x.told(2, 1), 4);
        x.end(0);
        Says.rule(x, "hours 11;");
        x.year();
        due("six, by 22 of 100 hours", x.told(2, 0), 6);
    }

    private static void gain() {
        ByThePound x = Says.shop();
        due("ten times 20 less 12", x.told(3, 0), 80);
        due("four times 12 less 6", x.told(3, 1), 24);
    }

    private static void toldOthers() {
        Says.refused(Says::shop, "told", NO_SUM,
            x -> x.told(-1, 0), x -> x.told(4, 0), x -> x.told(LOW, 0), x -> x.told(HIGH, 0),
            x -> x.told(0, -1), x -> x.told(0, 2), x -> x.told(0, 6), x -> x.told(0, LOW), x -> x.told(0, HIGH),
            x -> x.told(1, -1), x -> x.told(1, 2), x -> x.told(1, 6), x -> x.told(1, LOW), x -> x.told(1, HIGH),
            x -> x.told(2, -1), x -> x.told(2, 2), x -> x.told(2, 10), x -> x.told(2, LOW), x -> x.told(2, HIGH),
            x -> x.told(3, -1), x -> x.told(3, 2), x -> x.told(3, 10), x -> x.told(3, LOW), x -> x.told(3, HIGH));
        Says.refused(ByThePound::new, "told", NO_SUM, x -> x.told(0, 0), x -> x.told(1, 0), x -> x.told(2, 0), x -> x.told(3, 0));
        ByThePound x = Says.small();
        x.maker(1, 1, 1);
        x.buyer(1, 0, 1, 1);
        due("a second maker", x.told(0, 1), 0);
        due("no second buyer", x.told(2, 1), NO_SUM);
        due("no third maker", x.told(1, 2), NO_SUM);
    }

    // ---- 19: judge

    private static void judged() {
        ByThePound x = Says.shop();
        due("none yet", x.judge(), -1);
        x.house(1, 50);
        due("price doesn't go by the scales", x.judge(), -1);
        x.end(0);
        Says.rule(x, "price 1;");
        due("the first: 2 of 4", x.judge(), 0);
        x.drop(0);
        due("the second: 1 of 2", x.judge(), 1);
    }

    private static void judgedNone() {
        due("of nothing", new ByThePound().judge(), -1);
        ByThePound x = Says.shop();
        x.end(0);
        Says.rule(x, "price 0;");
        due("the first", x.judge(), 0);
        x.drop(0);
        x.drop(1);
        due("none", x.judge(), -1);
        ByThePound y = Says.sixPounds();
        Says.rule(y, "price 0;");
        due("ahead of any year", y.judge(), -1);
    }

    // ---- 20: best

    private static void bestWeightAndEarned() {
        ByThePound x = Says.shop();
        x.by(-1);
        // the offer for 9 (less 4) is taken, unless the new one is cheaper: from 6 pounds on it is as dear, at 150 percent
        due("weight", x.best(0, 0, 1, 0), 6);
        due("earned by the other", x.best(0, 0, 1, 1), 50);
        x.drop(0);
        due("weight: 8 for 12 less 8", x.best(0, 0, 1, 0), 8);
        due("earned", x.best(0, 0, 1, 1), 40);
        // beside 9 less 2 for four who carry 8
        due("weight that none can carry", x.best(1, 2, 0, 0), 9);
        due("earned by the other", x.best(1, 2, 3, 1), 28);
    }

    private static void bestOthers() {
        Says.refused(Says::shop, "best", NO_SUM,
            x -> x.best(-1, 0, 0, 0), x -> x.best(2, 0, 0, 0), x -> x.best(LOW, 0, 0, 0), x -> x.best(HIGH, 0, 0, 0),
            x -> x.best(0, -1, 0, 0), x -> x.best(0, 3, 0, 0), x -> x.best(0, 32, 0, 0), x -> x.best(0, LOW, 0, 0), x -> x.best(0, HIGH, 0, 0),
            x -> x.best(0, 0, -1, 0), x -> x.best(0, 0, 4, 0), x -> x.best(0, 0, LOW, 0), x -> x.best(0, 0, HIGH, 0),
            x -> x.best(0, 0, 0, -1), x -> x.best(0, 0, 0, 2), x -> x.best(0, 0, 0, LOW), x -> x.best(0, 0, 0, HIGH));
        Says.refused(ByThePound::new, "best", NO_SUM, x -> x.best(0, 0, 0, 0));
    }

    private static void bestNoCraft() {
        Says.refused(Says::shop, "best", NO_SUM, x -> x.best(0, 2, 0, 0), x -> x.best(1, 0, 0, 1), x -> x.best(1, 1, 0, 0), x -> x.best(1, 3, 0, 0), x -> x.best(1, 9, 0, 1));
        ByThePound x = Says.shop();
        due("his", x.best(1, 2, 0, 0) >= 1, true);
        x.thing(1, 7, 7, 0);
        due("his, now that it is told", x.best(1, 3, 0, 0), 7);
    }

    // ---- 21: rounds

    private static void howManyRounds() {
        due("of nothing", new ByThePound().rounds(), 1);
        ByThePound x = Says.sixPounds();
        x.house(1, 100);
        due("of like ones what it is", x.rounds(), 1);
        x.house(1, 150);
        due("9 is too dear for 7: 4 for 6, or 5 for 7, less 4 or 5", x.rounds(), 2);
        due("weight", x.of(0, 20), 4);
        due("again", x.rounds(), 1);
    }

    /** Two makers of one thing, both at the weight; they take the buyers from one another by a pound a round. */
    private static ByThePound chase(int weight) {
        ByThePound x = new ByThePound();
        x.thing(10, 1, 40, 0);
        x.maker(9999, 1, 0);
        x.maker(9999, 1, 0);
        x.buyer(1, 0, 40, 40);
        for (int maker = 0; maker <= 1; maker++) {
            x.offer(maker, 0);
            due("put", x.put(maker, 0, weight, 0), 1);
        }
        return x;
    }

    private static void notByNine() {
        ByThePound x = chase(8);
        due("by nine", x.rounds(), 9);
        due("weight", x.of(0, 20), 1);
        due("weight", x.of(1, 20), 1);
        ByThePound y = chase(9);
        due("not by nine", y.rounds(), -1);
        due("weight", y.of(0, 20), 1);
        ByThePound z = chase(30);
        due("not by nine", z.rounds(), -1);
        due("weights stay as they are then", z.of(0, 20), 22);
        due("weights stay as they are then", z.of(1, 20), 21);
        due("nor by nine more", z.rounds(), -1);
        due("weights stay as they are then", z.of(0, 20), 13);
        due("weights stay as they are then", z.of(1, 20), 12);
    }

    // ---- 22: never

    private static void whyNever() {
        ByThePound x = Says.shop();
        due("it can be had", x.never(0), 0);
        due("nobody pays six for what he doesn't want", x.never(1), 2);
        due("it can be had", x.never(2), 0);
        x.thing(1, 9, 9, 0);
        x.buyer(1, 3, 99, 9);
        due("it can be had", x.never(3), 0);
        x.thing(1, 9, 9, 0);
        due("nobody's craft", x.never(4), 1);
        x.end(0);
        Says.rule(x, "price 0;");
        due("below cost", x.never(0), 3);
        due("of no cost", x.never(1), 0);
    }

    private static void neverOthers() {
        Says.refused(Says::shop, "never", -1, x -> x.never(-1), x -> x.never(3), x -> x.never(9), x -> x.never(10), x -> x.never(LOW), x -> x.never(HIGH));
        Says.refused(ByThePound::new, "never", -1, x -> x.never(0));
        ByThePound x = new ByThePound();
        x.thing(1, 1, 1, 1);
        due("the one that is told", x.never(0), 1);
    }

    // ---- 23: tied

    private static void tied() {
        ByThePound x = Says.shop();
        // all sell for 6 a thing: one is cheaper than what is offered for 12, two are as dear and stand behind it
        due("apart: 2 pounds of thing 0 for 4 less 2", x.tied(0, 0, 1, 0), 80 - 40);
        due("in the other order", x.tied(0, 1, 0, 0), 80 - 40);
        x.drop(0);
        due("12 less 2 or 6 less 2, for ten", x.tied(0, 0, 1, 0), 100 - 40);
        due("at another house", x.tied(0, 1, 0, 3), 100 - 40);
    }

    private static void tiedOthers() {
        Says.refused(Says::shop, "tied", NO_SUM,
            x -> x.tied(-1, 0, 1, 0), x -> x.tied(2, 0, 1, 0), x -> x.tied(LOW, 0, 1, 0), x -> x.tied(HIGH, 0, 1, 0),
            x -> x.tied(0, 0, 0, 0), x -> x.tied(0, 1, 1, 0), x -> x.tied(0, -1, 1, 0), x -> x.tied(0, 0, -1, 0),
            x -> x.tied(0, 3, 1, 0), x -> x.tied(0, 0, 3, 0), x -> x.tied(0, LOW, 1, 0), x -> x.tied(0, 0, HIGH, 0), x -> x.tied(0, 32, 33, 0),
            x -> x.tied(0, 0, 1, -1), x -> x.tied(0, 0, 1, 4), x -> x.tied(0, 0, 1, LOW), x -> x.tied(0, 0, 1, HIGH));
        Says.refused(ByThePound::new, "tied", NO_SUM, x -> x.tied(0, 0, 1, 0));
    }

    private static void tiedNoCrafts() {
        Says.refused(Says::shop, "tied", NO_SUM,
            x -> x.tied(0, 0, 2, 0), x -> x.tied(0, 2, 0, 0), x -> x.tied(1, 2, 0, 0), x -> x.tied(1, 0, 2, 0), x -> x.tied(1, 0, 1, 0), x -> x.tied(1, 2, 3, 0));
        ByThePound x = Says.shop();
        x.thing(1, 1, 1, 0);
        due("his, now that it is told", x.tied(1, 2, 3, 0) == NO_SUM, false);
    }

    // ---- 24: harm

    private static void harm() {
        ByThePound x = Says.shop();
        // could: ten times 20 less 2, four times 12 less 1; had, by 6 a thing: ten times 8 and 8, four times 6 and 4
        for (int text = -1; text <= 1; text++) {
            due("could by " + text, x.harm(text, 0), 180 + 44);
        }
        due("had by THE TEXT", x.harm(1, 1), 160 + 40);
        due("harm by THE TEXT", x.harm(1, 2), 24);
        due("had by the other, 5 a thing", x.harm(0, 1), 100 + 60 + 28 + 12);
        due("harm by the other", x.harm(0, 2), 24);
        // by none: ten times 11 and 5, four times 3 and 7
        due("had by none", x.harm(-1, 1), 110 + 50 + 12 + 28);
        due("harm by none", x.harm(-1, 2), 24);
        x.drop(1);
        due("harm by none", x.harm(-1, 2), 64);
    }

    private static void harmOthers() {
        Says.refused(Says::shop, "harm", NO_SUM,
            x -> x.harm(-2, 0), x -> x.harm(2, 0), x -> x.harm(6, 0), x -> x.harm(LOW, 0), x -> x.harm(HIGH, 0),
            x -> x.harm(0, -1), x -> x.harm(0, 3), x -> x.harm(0, LOW), x -> x.harm(0, HIGH), x -> x.harm(-1, 3), x -> x.harm(-1, -1));
        Says.refused(ByThePound::new, "harm", NO_SUM, x -> x.harm(0, 0));
        due("none, without texts", new ByThePound().harm(-1, 2), 0);
    }

    // ---- 25: least

    private static void leastHarm() {
        ByThePound x = Says.shop();
        due("of like ones the lowest", x.least(), 0);
        x.end(0);
        Says.read(x, "worth 30;");
        Says.read(x, "worth 30; hours 1;");
        Says.read(x, "worth 30; hours 1;");
        due("could 420, had 10 * 56 and 4 * 28", x.harm(2, 2), 420 - 672);
        due("an hour less for each of four", x.harm(3, 2), 420 - 676);
        due("the same", x.harm(4, 2), 420 - 676);
        due("the lowest of least harm", x.least(), 3);
        Says.read(x, "worth 0;");
        due("no harm", x.harm(5, 2), 0);
        due("below 0 is less", x.least(), 3);
        due("THE TEXT stays", x.about(5), 1);
    }

    private static void leastWithoutTexts() {
        due("none", new ByThePound().least(), -1);
        ByThePound x = Says.sixPounds();
        due("none", x.least(), -1);
        Says.read(x, "price");
        due("none but a faulty one", x.least(), -1);
        Says.read(x, "");
        due("one", x.least(), 0);
        x.back();
        due("none again", x.least(), -1);
    }

    // ---- 26: changed

    private static void changed() {
        ByThePound x = Says.shop();
        // from 6 to 5 a thing
        due("buyers more", x.changed(0, 0), 3);
        due("buyers less", x.changed(0, 1), 0);
        due("makers more", x.changed(0, 2), 0);
        due("makers less", x.changed(0, 3), 3);
        // to none: 9 as 12, 9 as 6
        due("buyers more by none", x.changed(-1, 0), 1);
        due("buyers less by none", x.changed(-1, 1), 2);
        due("makers more by none", x.changed(-1, 2), 2);
        due("makers less by none", x.changed(-1, 3), 1);
        for (int what = 0; what <= 3; what++) {
            due("by THE TEXT itself", x.changed(1, what), 0);
        }
    }

    private static void changedOthers() {
        Says.refused(Says::shop, "changed", -1,
            x -> x.changed(-2, 0), x -> x.changed(2, 0), x -> x.changed(6, 0), x -> x.changed(LOW, 0), x -> x.changed(HIGH, 0),
            x -> x.changed(0, -1), x -> x.changed(0, 4), x -> x.changed(0, LOW), x -> x.changed(0, HIGH), x -> x.changed(-1, -1), x -> x.changed(-1, 4));
        Says.refused(ByThePound::new, "changed", -1, x -> x.changed(0, 0));
        due("none, without texts", new ByThePound().changed(-1, 0), 0);
    }

    // ---- 27: where

    private static void bestHouse() {
        ByThePound x = Says.shop();
        due("a price that doesn't go by the scales", x.where(0), 0);
        due("a price that doesn't go by the scales", x.where(1), 0);
        x.by(-1);
        due("10 and 3 at 1", x.where(0), 1);
        due("9 at 1", x.where(1), 1);
        x.house(1, 50);
        x.house(2, 50);
        x.house(3, 101);
        due("9 at 0 and at 3", x.where(0), 0);
        x.house(0, 99);
        due("9 at 3", x.where(0), 3);
    }

    private static void whereOthers() {
        Says.refused(Says::shop, "where", -1, x -> x.where(-1), x -> x.where(2), x -> x.where(19), x -> x.where(20), x -> x.where(LOW), x -> x.where(HIGH));
        Says.refused(ByThePound::new, "where", -1, x -> x.where(0));
    }

    // ---- 28: gift

    private static void giftItsNumber() {
        ByThePound x = Says.shop();
        due("the third", x.gift(0, 1, 1), 2);
        due("the fourth, of the same", x.gift(0, 1, 1), 3);
        due("gifts", x.about(6), 4);
        due("net", x.net(0), 3 - 4 - 2);
    }

    private static void giftOthers() {
        Says.refused(Says::shop, "gift", -1,
            x -> x.gift(-1, 1, 1), x -> x.gift(8, 1, 1), x -> x.gift(LOW, 1, 1), x -> x.gift(HIGH, 1, 1),
            x -> x.gift(1, -1, 1), x -> x.gift(1, 8, 1), x -> x.gift(1, LOW, 1), x -> x.gift(1, HIGH, 1),
            x -> x.gift(0, 1, 0), x -> x.gift(0, 1, 1000), x -> x.gift(0, 1, -1), x -> x.gift(0, 1, LOW), x -> x.gift(0, 1, HIGH));
    }

    private static void giftOneAndTheSame() {
        Says.refused(Says::shop, "gift", -1, x -> x.gift(0, 0, 1), x -> x.gift(7, 7, 999), x -> x.gift(8, 8, 1), x -> x.gift(3, 3, 5));
        due("the next", Says.shop().gift(6, 7, 5), 2);
    }

    private static ByThePound thirtyGifts() {
        ByThePound x = new ByThePound();
        for (int i = 0; i < 30; i++) {
            due("gift", x.gift(7, 6, 9), i);
        }
        return x;
    }

    private static void giftIfThereAre30() {
        Says.refused(AnswerSentences::thirtyGifts, "gift", -1, x -> x.gift(0, 1, 1), x -> x.gift(7, 6, 999), x -> x.gift(1, 1, 1));
        ByThePound x = thirtyGifts();
        x.back();
        due("gone, so there is room", x.gift(0, 1, 1), 0);
    }

    // ---- 29, 30: round, net

    private static void goesRound() {
        ByThePound x = Says.shop();
        due("0 to 1 to 0", x.round(0), 2);
        due("1 to 0 to 1", x.round(1), 2);
        x.gift(1, 7, 1);
        x.gift(7, 0, 1);
        due("still by two", x.round(0), 2);
        due("7 to 0 to 1 to 7", x.round(7), 3);
    }

    private static void roundNone() {
        ByThePound x = Says.shop();
        for (int who = 2; who <= 7; who++) {
            due("none of " + who, x.round(who), -1);
        }
        x.gift(2, 0, 5);
        due("none comes back", x.round(2), -1);
        x.gift(1, 3, 5);
        due("none is given on", x.round(3), -1);
    }

    private static void roundOthers() {
        Says.refused(Says::shop, "round", -1, x -> x.round(-1), x -> x.round(8), x -> x.round(32), x -> x.round(LOW), x -> x.round(HIGH));
    }

    private static void net() {
        ByThePound x = Says.shop();
        due("3 less 4", x.net(0), -1);
        due("4 less 3", x.net(1), 1);
        for (int who = 2; who <= 7; who++) {
            due("nothing", x.net(who), 0);
        }
        x.gift(7, 0, 999);
        due("got", x.net(0), 998);
        due("given", x.net(7), -999);
    }

    private static void netOthers() {
        Says.refused(Says::shop, "net", NO_WORTH, x -> x.net(-1), x -> x.net(8), x -> x.net(LOW), x -> x.net(HIGH));
    }

    // ---- 31: steady

    private static void steady() {
        ByThePound x = Says.shop();
        due("0 takes 4 back, then 1 takes 3", x.steady(), 2);
        due("gifts", x.about(6), 2);
        x.gift(1, 0, 1);
        due("all are even", x.steady(), 0);
        due("of nothing", new ByThePound().steady(), 0);
        due("thirty", thirtyGifts().steady(), 30);
    }

    // ---- 32: buyers

    private static void buyersAllTheirMany() {
        ByThePound x = Says.shop();
        // 5 * 9 + 5 is 50, and 50 * 211 + 29 is 10579
        due("one", x.buyers(5, 1), 11);
        due("buyers", x.about(2), 1);
        due("many", x.about(100), 11);
        due("want", x.about(110), 1);
        due("taste", x.about(120), (10579 * 211 + 29) % 30071 % 100);
        int all = x.buyers(9999, 10);
        int sum = 0;
        for (int i = 0; i < 10; i++) {
            sum += x.about(100 + i);
        }
        due("ten", all, sum);
        due("buyers", x.about(2), 10);
    }

    private static void buyersOthers() {
        Says.refused(Says::shop, "buyers", -1,
            x -> x.buyers(-1, 1), x -> x.buyers(10000, 1), x -> x.buyers(LOW, 1), x -> x.buyers(HIGH, 1),
            x -> x.buyers(0, 0), x -> x.buyers(0, 11), x -> x.buyers(0, -1), x -> x.buyers(0, LOW), x -> x.buyers(0, HIGH));
        due("0 and 1", Says.shop().buyers(0, 1), 6);
        due("9999 and 1", Says.shop().buyers(9999, 1), 1 + 89996 % 40);
    }

    private static void buyersWithoutThings() {
        Says.refused(ByThePound::new, "buyers", -1, x -> x.buyers(0, 1), x -> x.buyers(9999, 10));
        ByThePound x = new ByThePound();
        x.maker(1, 1, 1);
        due("makers alone", x.buyers(0, 1), -1);
        x.thing(1, 1, 1, 1);
        due("one thing", x.buyers(0, 1), 6);
        due("which he wants", x.about(110), 0);
    }

    // ---- 33, 34: image, back

    private static void theImageIsNow() {
        due("without offers", new ByThePound().image(), 0);
        ByThePound x = Says.shop();
        due("two", x.image(), 2);
        x.offer(0, 0);
        due("three", x.image(), 3);
        x.thing(1, 1, 1, 1);
        due("back to the latest", x.back(), 3);
        due("things", x.about(0), 3);
        x.gift(4, 5, 6);
        due("the image of that", x.image(), 3);
        x.back();
        due("gifts", x.about(6), 3);
        for (int i = 3; i < 20; i++) {
            x.offer(0, 0);
        }
        due("twenty", x.image(), 20);
    }

    private static void allIsAsAtTheImage() {
        ByThePound x = Says.shop();
        x.image();
        long before = Says.state(x);
        x.drop(0);
        x.put(1, 2, 9, 0);
        x.by(-1);
        x.house(2, 77);
        x.buyers(1, 7);
        x.year();
        due("changed", Says.state(x) == before, false);
        due("two", x.back(), 2);
        due("all is as it was", Says.state(x) == before, true);
    }

    private static void theImageStays() {
        ByThePound x = Says.shop();
        x.image();
        for (int i = 0; i < 3; i++) {
            x.offer(0, 0);
            x.drop(0);
            x.put(0, 0, 8, 0);
            x.gift(2, 3, 4);
            due("two", x.back(), 2);
            due("weight", x.of(0, 20), 4);
            due("items", x.of(0, 6), 2);
            due("gifts", x.about(6), 2);
        }
        due("back once more", x.back(), 2);
        due("weight", x.of(0, 20), 4);
    }

    private static void backHowManyOffers() {
        due("of a new object", new ByThePound().back(), 0);
        ByThePound x = Says.shop();
        due("of a new object", x.back(), 0);
        due("offers", x.about(3), 0);
    }

    // ---- 35: about

    private static void aboutCounts() {
        ByThePound x = Says.shop();
        int[] due = {3, 2, 2, 2, 2, 1, 2, 20};
        for (int what = 0; what <= 7; what++) {
            due("about " + what, x.about(what), due[what]);
        }
        x.by(-1);
        due("no text", x.about(5), -1);
        x.by(0);
        due("the first", x.about(5), 0);
        x.end(19);
        due("bytes", x.about(7), 19);
    }

    private static void aboutPercent() {
        ByThePound x = Says.shop();
        x.house(0, 50);
        x.house(3, 149);
        due("10", x.about(10), 50);
        due("11", x.about(11), 150);
        due("12", x.about(12), 100);
        due("13", x.about(13), 149);
        due("14", x.about(14), -2);
        due("9", x.about(9), -2);
    }

    private static void aboutBuyers() {
        ByThePound x = Says.shop();
        int[][] due = {{10, 4}, {0, 2}, {20, 12}, {9, 8}};
        for (int k = 0; k <= 3; k++) {
            for (int buyer = 0; buyer <= 1; buyer++) {
                due("of buyer " + buyer + ": " + k, x.about(100 + 10 * k + buyer), due[k][buyer]);
            }
            for (int buyer = 2; buyer <= 9; buyer++) {
                due("no buyer " + buyer, x.about(100 + 10 * k + buyer), -2);
            }
        }
        x.buyers(1, 10);
        for (int k = 0; k <= 3; k++) {
            due("the tenth: " + k, x.about(100 + 10 * k + 9) >= 0, true);
        }
    }

    private static void aboutOthers() {
        ByThePound x = Says.shop();
        int[] whats = {LOW, -2, -1, 8, 9, 14, 15, 20, 99, 102, 140, 141, 150, 200, HIGH};
        for (int what : whats) {
            due("about(" + what + ")", x.about(what), -2);
        }
        x.buyers(1, 10);
        due("140", x.about(140), -2);
        due("99", x.about(99), -2);
        Says.refused(Says::shop, "about", -2, y -> y.about(-1), y -> y.about(8), y -> y.about(140));
    }

    private static void due(String call, long got, long want) {
        Says.due(call, got, want);
    }

    private static void due(String call, boolean got, boolean want) {
        Says.due(call, got, want);
    }

    private static void year() {
        Says.says("15", "WORTH of an OFFER to a BUYER.", AnswerSentences::worthToABuyer);
        Says.says("15", "-1000000 for others.", AnswerSentences::worthOthers);
        Says.says("16", "The OFFER that a BUYER LIKES best.", AnswerSentences::likesBest);
        Says.says("16", "NONE: none", AnswerSentences::likesNone);
        Says.says("16", "and for others.", AnswerSentences::likesOthers);
        Says.says("17", "A YEAR: how many OFFERS were SOLD, all together.", AnswerSentences::soldAllTogether);
        Says.says("18", "Of the latest YEAR", AnswerSentences::ofTheLatestYear);
        Says.says("18", "(0 ahead of any", AnswerSentences::aheadOfAny);
        Says.says("18", "and of who was not there then)", AnswerSentences::whoWasNotThere);
        Says.says("18", "0 EARNED of a MAKER", AnswerSentences::earned);
        Says.says("18", "1 HOURS left of a MAKER", AnswerSentences::hoursLeft);
        Says.says("18", "2 LACKS of a BUYER", AnswerSentences::lacks);
        Says.says("18", "3 GAIN of a BUYER.", AnswerSentences::gain);
        Says.says("18", "-1000000000 for others.", AnswerSentences::toldOthers);
        Says.says("19", "JUDGED.", AnswerSentences::judged);
        Says.says("19", "NONE: none.", AnswerSentences::judgedNone);
    }

    private static void trials() {
        Says.says("20", "BEST: 0 the WEIGHT, 1 EARNED.", AnswerSentences::bestWeightAndEarned);
        Says.says("20", "-1000000000 for others", AnswerSentences::bestOthers);
        Says.says("20", "and a THING that isn't of his CRAFTS.", AnswerSentences::bestNoCraft);
        Says.says("21", "BY TURNS: how many ROUNDS.", AnswerSentences::howManyRounds);
        Says.says("21", "NONE: not by 9 (WEIGHTS stay as they are then).", AnswerSentences::notByNine);
        Says.says("22", "WHY a THING is NEVER had (0: it can be).", AnswerSentences::whyNever);
        Says.says("22", "NONE for others.", AnswerSentences::neverOthers);
        Says.says("23", "TIED.", AnswerSentences::tied);
        Says.says("23", "-1000000000 for others", AnswerSentences::tiedOthers);
        Says.says("23", "and THINGS that aren't of his CRAFTS.", AnswerSentences::tiedNoCrafts);
    }

    private static void laws() {
        Says.says("24", "0 COULD, 1 HAD, 2 HARM of a TEXT (NONE: without).", AnswerSentences::harm);
        Says.says("24", "-1000000000 for others.", AnswerSentences::harmOthers);
        Says.says("25", "LEAST HARM.", AnswerSentences::leastHarm);
        Says.says("25", "NONE without TEXTS.", AnswerSentences::leastWithoutTexts);
        Says.says("26", "CHANGED to a TEXT (NONE: without): 0 BUYERS who gain more, 1 less, 2 MAKERS who EARN more, 3 less.", AnswerSentences::changed);
        Says.says("26", "NONE for others.", AnswerSentences::changedOthers);
        Says.says("27", "BEST HOUSE.", AnswerSentences::bestHouse);
        Says.says("27", "NONE for others.", AnswerSentences::whereOthers);
    }

    private static void people() {
        Says.says("28", "A GIFT: its number.", AnswerSentences::giftItsNumber);
        Says.says("28", "NONE for others", AnswerSentences::giftOthers);
        Says.says("28", "one and the same", AnswerSentences::giftOneAndTheSame);
        Says.says("28", "or if there are 30.", AnswerSentences::giftIfThereAre30);
        Says.says("29", "GOES ROUND.", AnswerSentences::goesRound);
        Says.says("29", "NONE: none", AnswerSentences::roundNone);
        Says.says("29", "and for others.", AnswerSentences::roundOthers);
        Says.says("30", "NET.", AnswerSentences::net);
        Says.says("30", "-1000000 for others.", AnswerSentences::netOthers);
        Says.says("31", "STEADY.", AnswerSentences::steady);
        Says.says("32", "BUYERS by a SEED: all their MANY.", AnswerSentences::buyersAllTheirMany);
        Says.says("32", "NONE for others", AnswerSentences::buyersOthers);
        Says.says("32", "and without THINGS.", AnswerSentences::buyersWithoutThings);
    }

    private static void images() {
        Says.says("33", "THE IMAGE is as all is now: how many OFFERS there are.", AnswerSentences::theImageIsNow);
        Says.says("34", "All is as at THE IMAGE again", AnswerSentences::allIsAsAtTheImage);
        Says.says("34", "(it stays)", AnswerSentences::theImageStays);
        Says.says("34", "how many OFFERS there are.", AnswerSentences::backHowManyOffers);
        Says.says("35", "0 THINGS, 1 MAKERS, 2 BUYERS, 3 OFFERS, 4 TEXTS, 5 THE TEXT (NONE), 6 GIFTS, 7 bytes of the tape", AnswerSentences::aboutCounts);
        Says.says("35", "10 + house: its PERCENT", AnswerSentences::aboutPercent);
        Says.says("35", "100 + 10 k + buyer: his MANY, WANT, TASTE, CARRY (k 0 .. 3).", AnswerSentences::aboutBuyers);
        Says.says("35", "-2 for others.", AnswerSentences::aboutOthers);
    }

    static void all() {
        year();
        trials();
        laws();
        people();
        images();
    }
}
